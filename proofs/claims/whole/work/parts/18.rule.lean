set_option maxHeartbeats 4000000 in
theorem ok_X8_after {V : VV} {r l a : Int} (hr : rul r) (hl : 0 ≤ l ∧ l < 6) (ha : 0 ≤ a ∧ a < 36) : Ok NC yX8_after cX8_after 3 (some .long) 1 21 [vA r, vI l, vI a] V (pL (fun x9 V' => x9 = V (r + 2) (l * 36 + a) ∧ V' = V)) := by
  refine Ok.intro (by decide +kernel) (Nat.le_of_ble_eq_true rfl) (fun X G hX hG hR hoa hoV => ?_)
  show J X G 0 [vA r, vI l, vI a] [] V
  refine j_al0 hX dX8_after_0 rfl ?_
  refine j_getR (q := r + 2) hX hG fl_X8_15 rfl (by first | rfl | exact rf8_1 (by assumption)) (by first | assumption | decide | exact ob8 (by assumption) | exact ob7 (by assumption) | exact ob2 (by assumption)) dX8_after_1 ?_
  refine j_il1 hX dX8_after_4 ?_
  refine j_bipush hX dX8_after_5 (by decide) ⟨by decide, by decide⟩ ?_
  refine j_imul hX dX8_after_7 (by omega) ?_
  refine j_il2 hX dX8_after_8 ?_
  refine j_iadd hX dX8_after_9 (by omega) ?_
  refine j_pSL2 hX hG lk_X8_102 (ok_X11_bitsAt_in (by first | assumption | decide | exact ar8a (by assumption) | exact ar8b (by assumption) | exact ar8c (by assumption) | exact ar7 (by assumption) | exact ar2 (by assumption)) (by first | assumption | decide) (by first | assumption | omega | decide)) (Nat.le_of_ble_eq_true rfl) (Nat.le_of_ble_eq_true rfl) (Nat.le_of_ble_eq_true rfl) rfl dX8_after_10 ?_
  exact j_retL hR dX8_after_13 ⟨by first | rfl | omega | (exfalso; omega), rfl⟩
set_option maxHeartbeats 4000000 in
theorem ok_X8_before {V : VV} {r l a : Int} (hr : rul r) (hl : 0 ≤ l ∧ l < 6) (ha : 0 ≤ a ∧ a < 36) : Ok NC yX8_before cX8_before 3 (some .long) 1 21 [vA r, vI l, vI a] V (pL (fun x9 V' => x9 = V (r + 3) (l * 36 + a) ∧ V' = V)) := by
  refine Ok.intro (by decide +kernel) (Nat.le_of_ble_eq_true rfl) (fun X G hX hG hR hoa hoV => ?_)
  show J X G 0 [vA r, vI l, vI a] [] V
  refine j_al0 hX dX8_before_0 rfl ?_
  refine j_getR (q := r + 3) hX hG fl_X8_19 rfl (by first | rfl | exact rf8_2 (by assumption)) (by first | assumption | decide | exact ob8 (by assumption) | exact ob7 (by assumption) | exact ob2 (by assumption)) dX8_before_1 ?_
  refine j_il1 hX dX8_before_4 ?_
  refine j_bipush hX dX8_before_5 (by decide) ⟨by decide, by decide⟩ ?_
  refine j_imul hX dX8_before_7 (by omega) ?_
  refine j_il2 hX dX8_before_8 ?_
  refine j_iadd hX dX8_before_9 (by omega) ?_
  refine j_pSL2 hX hG lk_X8_102 (ok_X11_bitsAt_in (by first | assumption | decide | exact ar8a (by assumption) | exact ar8b (by assumption) | exact ar8c (by assumption) | exact ar7 (by assumption) | exact ar2 (by assumption)) (by first | assumption | decide) (by first | assumption | omega | decide)) (Nat.le_of_ble_eq_true rfl) (Nat.le_of_ble_eq_true rfl) (Nat.le_of_ble_eq_true rfl) rfl dX8_before_10 ?_
  exact j_retL hR dX8_before_13 ⟨by first | rfl | omega | (exfalso; omega), rfl⟩
set_option maxHeartbeats 4000000 in
theorem ok_X8_restart {V : VV} {r g w : Int} (hr : rul r) (hg : 2 ≤ g ∧ g ≤ 6) (hw : 2 ≤ w ∧ w ≤ 3) (hv : 0 ≤ V r 7 ∧ V r 7 ≤ 1000000) : Ok NC yX8_restart cX8_restart 3 none 1 23 [vA r, vI g, vI w] V (pV (fun V' => RO V' r ∧ V' r 3 = g ∧ V' r 4 = w ∧ V' r 7 = V r 7 + 1 ∧ (∀ e, 0 ≤ e → e < 216 → V' (r + 1) e = 0) ∧ sm2 r (r + 1) V V')) := by
  refine Ok.intro (by decide +kernel) (Nat.le_of_ble_eq_true rfl) (fun X G hX hG hR hoa hoV => ?_)
  show J X G 0 [vA r, vI g, vI w] [] V
  have hnr : ¬ r = r + 1 := by omega
  have hnr2 : ¬ r + 1 = r := by omega
  refine j_al0 hX dX8_restart_0 rfl ?_
  refine j_il1 hX dX8_restart_1 ?_
  refine j_putI hX hG fp_X8_22 rfl (by first | assumption | decide | exact ob8 (by assumption) | exact ob7 (by assumption) | exact ob2 (by assumption)) dX8_restart_2 ?_
  refine j_al0 hX dX8_restart_5 rfl ?_
  refine j_il2 hX dX8_restart_6 ?_
  refine j_putI hX hG fp_X8_26 rfl (by first | assumption | decide | exact ob8 (by assumption) | exact ob7 (by assumption) | exact ob2 (by assumption)) dX8_restart_7 ?_
  refine j_al0 hX dX8_restart_10 rfl ?_
  refine j_al0 hX dX8_restart_11 rfl ?_
  refine j_getI hX hG fl_X8_22 (Or.inl rfl) (by first | assumption | decide | exact ob8 (by assumption) | exact ob7 (by assumption) | exact ob2 (by assumption)) dX8_restart_12 ?_
  refine j_al0 hX dX8_restart_15 rfl ?_
  refine j_getI hX hG fl_X8_26 (Or.inl rfl) (by first | assumption | decide | exact ob8 (by assumption) | exact ob7 (by assumption) | exact ob2 (by assumption)) dX8_restart_16 ?_
  refine j_iconst hX dX8_restart_19 ⟨by decide, by decide⟩ ?_
  refine j_isub hX dX8_restart_20 (by simp [up]; omega) ?_
  refine j_pSI2 hX hG lk_X8_29 (ok_X11_power (by simp [up]; omega) (by simp [up]; omega)) (Nat.le_of_ble_eq_true rfl) (Nat.le_of_ble_eq_true rfl) (Nat.le_of_ble_eq_true rfl) rfl dX8_restart_21 ?_
  have en9 : g ^ (w - 1).toNat = if w = 2 then g else g * g := pw_w hw
  have gg9 : g * g ≤ 6 * 6 := Int.mul_le_mul hg.2 hg.2 (by omega) (by omega)
  have gp9 : 0 ≤ g * g := Int.mul_nonneg (by omega) (by omega)
  refine j_eqS (st' := [vI (if w = 2 then g else g * g), vA r]) (by rw [← en9]; simp [up]) ?_
  refine j_putI hX hG fp_X8_33 rfl (by first | assumption | decide | exact ob8 (by assumption) | exact ob7 (by assumption) | exact ob2 (by assumption)) dX8_restart_24 ?_
  refine j_al0 hX dX8_restart_27 rfl ?_
  refine j_al0 hX dX8_restart_28 rfl ?_
  refine j_getI hX hG fl_X8_33 (Or.inl rfl) (by first | assumption | decide | exact ob8 (by assumption) | exact ob7 (by assumption) | exact ob2 (by assumption)) dX8_restart_29 ?_
  refine j_al0 hX dX8_restart_32 rfl ?_
  refine j_getI hX hG fl_X8_22 (Or.inl rfl) (by first | assumption | decide | exact ob8 (by assumption) | exact ob7 (by assumption) | exact ob2 (by assumption)) dX8_restart_33 ?_
  refine j_imul hX dX8_restart_36 (by simp [up]; exact ng_b hg hw) ?_
  refine j_eqS (st' := [vI ((if w = 2 then g else g * g) * g), vA r]) (by simp [up]) ?_
  refine j_putI hX hG fp_X8_36 rfl (by first | assumption | decide | exact ob8 (by assumption) | exact ob7 (by assumption) | exact ob2 (by assumption)) dX8_restart_37 ?_
  refine j_al0 hX dX8_restart_40 rfl ?_
  refine j_getR (q := r + 1) hX hG fl_X8_9 rfl (by first | rfl | exact rf8_0 (by assumption)) (by first | assumption | decide | exact ob8 (by assumption) | exact ob7 (by assumption) | exact ob2 (by assumption)) dX8_restart_41 ?_
  refine j_iconst hX dX8_restart_44 ⟨by decide, by decide⟩ ?_
  refine j_cSV2 hX hG lk_X8_39 (ok_J7_fill_53178 (by first | assumption | decide | exact ar8a (by assumption) | exact ar8b (by assumption) | exact ar8c (by assumption) | exact ar7 (by assumption) | exact ar2 (by assumption)) (by first | assumption | decide)) (Nat.le_of_ble_eq_true rfl) (Nat.le_of_ble_eq_true rfl) (Nat.le_of_ble_eq_true rfl) rfl dX8_restart_45 (fun V_45 h_45 => ?_)
  subst h_45
  refine j_al0 hX dX8_restart_48 rfl ?_
  refine j_dup hX dX8_restart_49 rfl ?_
  refine j_getI hX hG fl_X8_45 (Or.inl rfl) (by first | assumption | decide | exact ob8 (by assumption) | exact ob7 (by assumption) | exact ob2 (by assumption)) dX8_restart_50 ?_
  refine j_iconst hX dX8_restart_53 ⟨by decide, by decide⟩ ?_
  refine j_iadd hX dX8_restart_54 (by simp [up, fillV, hnr, hnr2]; omega) ?_
  refine j_eqS (st' := [vI (V r 7 + 1), vA r]) (by simp [up, fillV, hnr, hnr2]) ?_
  refine j_putI hX hG fp_X8_45 rfl (by first | assumption | decide | exact ob8 (by assumption) | exact ob7 (by assumption) | exact ob2 (by assumption)) dX8_restart_55 ?_
  exact j_ret hR dX8_restart_58 ⟨by unfold RO; simp [up, fillV, hnr, hnr2]; exact ⟨hg, by omega⟩, by simp [up, fillV, hnr, hnr2], by simp [up, fillV, hnr, hnr2], by simp [up, fillV, hnr, hnr2], fun e h0 h1 => by simp [up, fillV, hnr, hnr2, h0, h1], fun a b h1 h2 => by simp [up, fillV, hnr, hnr2, h1, h2]⟩
set_option maxHeartbeats 4000000 in
theorem ok_X8_copy {V : VV} (ho9 : RO V 6) (hv : 0 ≤ V 15 7 ∧ V 15 7 ≤ 1000000) : Ok NC yX8_copy cX8_copy 3 none 2 45 [vA 15, vA 6] V (pV (fun V' => RO V' 15 ∧ V' 15 3 = V 6 3 ∧ V' 15 4 = V 6 4 ∧ V' 15 7 = V 15 7 + 1 ∧ (∀ e, 0 ≤ e → e < V 6 5 → V' 16 e = V 7 e) ∧ sm2 15 16 V V')) := by
  refine Ok.intro (by decide +kernel) (Nat.le_of_ble_eq_true rfl) (fun X G hX hG hR hoa hoV => ?_)
  show J X G 0 [vA 15, vA 6, vU] [] V
  have hb9 := ho9.b
  refine j_al0 hX dX8_copy_0 rfl ?_
  refine j_al1 hX dX8_copy_1 rfl ?_
  refine j_getI hX hG fl_X8_22 (Or.inl rfl) (by decide) dX8_copy_2 ?_
  refine j_al1 hX dX8_copy_5 rfl ?_
  refine j_getI hX hG fl_X8_26 (Or.inl rfl) (by decide) dX8_copy_6 ?_
  refine j_cVV2 (ci := 8) hX hG lk_X8_48 (ok_X8_restart (Or.inr (Or.inl rfl)) (by first | assumption | omega | decide) (by first | assumption | omega | decide) (by first | assumption | omega | decide)) (by decide) rfl (Nat.le_of_ble_eq_true rfl) (Nat.le_of_ble_eq_true rfl) (Nat.le_of_ble_eq_true rfl) rfl dX8_copy_9 (fun V_9 h_9 => ?_)
  obtain ⟨r1, r2, r3, r4, -, r6⟩ := h_9
  obtain ⟨r7, r8⟩ := RO.det ho9 r1 r2 r3
  try dsimp only [Int.reduceAdd]
  refine j_iconst hX dX8_copy_12 ⟨by decide, by decide⟩ ?_
  refine j_is2 hX dX8_copy_13 rfl ?_
  have lp_14 : ∀ (f9 : Nat) (i : Int) (W : VV), (0 ≤ i ∧ i ≤ V 6 5) → (sm1 16 V_9 W) → (∀ e, 0 ≤ e → e < i → W 16 e = V 7 e) → ((V 6 5 - i).toNat) < f9 → J X G 14 [vA 15, vA 6, vI i] [] W := by
    intro f9
    induction f9 with
    | zero => intro i W _ _ _ hm; exact absurd hm (Nat.not_lt_zero _)
    | succ f9 ih_14 =>
      intro i W hi hs hT hm
      refine j_il2 hX dX8_copy_14 ?_
      refine j_al0 hX dX8_copy_15 rfl ?_
      refine j_getI hX hG fl_X8_36 (Or.inl rfl) (by decide) dX8_copy_16 ?_
      refine j_icmp_ge (tgt := 41) hX dX8_copy_19 (by decide) (fun h_19 => ?_) (fun h_19 => ?_)
      · skip
        exact j_ret hR dX8_copy_41 (by have e5 := hs 15 5 (by decide); exact ⟨r1.sm (fun b => hs 15 b (by decide)), by rw [hs 15 3 (by decide)]; exact r2, by rw [hs 15 4 (by decide)]; exact r3, by rw [hs 15 7 (by decide)]; exact r4, fun e h0 h1 => hT e h0 (by omega), sm2_t r6 (sm1_2 hs)⟩)
      · skip
        have q5 := hs 15 5 (by decide)
        refine j_al0 hX dX8_copy_22 rfl ?_
        refine j_getR (q := 16) hX hG fl_X8_9 rfl rfl (by decide) dX8_copy_23 ?_
        refine j_il2 hX dX8_copy_26 ?_
        refine j_al1 hX dX8_copy_27 rfl ?_
        refine j_il2 hX dX8_copy_28 ?_
        refine j_pVI1 (ci := 8) hX hG lk_X8_52 (ok_X8_gives (by first | assumption | omega | decide) (by have := hs 15 5 (by decide); omega)) (by decide) rfl (Nat.le_of_ble_eq_true rfl) (Nat.le_of_ble_eq_true rfl) (Nat.le_of_ble_eq_true rfl) rfl dX8_copy_29 ?_
        try dsimp only [Int.reduceAdd]
        refine j_cSV3 hX hG lk_X8_56 (ok_X11_put_in (n := 216) (by decide) (by first | assumption | decide) (by have := hs 15 5 (by decide); omega)) (Nat.le_of_ble_eq_true rfl) (Nat.le_of_ble_eq_true rfl) (Nat.le_of_ble_eq_true rfl) rfl dX8_copy_32 (fun V_32 h_32 => ?_)
        subst h_32
        refine j_inc2 hX dX8_copy_35 rfl (by omega) ?_
        refine j_goto (tgt := 14) hX dX8_copy_38 (by decide) ?_
        exact ih_14 _ _ (by have := hs 15 5 (by decide); omega) (sm1_u hs) (lt_stepI (fun b h8 h9 => by rw [up_n _ (by omega)]; exact hT b h8 h9) (by rw [up_s, hs 7 i (by decide)]; exact r6 7 i (by decide) (by decide))) (by omega)
  exact lp_14 _ _ _ (by omega) sm1_0 (by omega) (Nat.lt_succ_self _)
set_option maxHeartbeats 4000000 in
theorem ok_X8_becomeMoverOf {V : VV} (ho9 : RO V 15) (hv : 0 ≤ V 19 7 ∧ V 19 7 ≤ 1000000) : Ok NC yX8_becomeMoverOf cX8_becomeMoverOf 3 none 3 66 [vA 19, vA 15] V (pV (fun V' => RO V' 19 ∧ V' 19 3 = V 15 3 ∧ V' 19 4 = V 15 4 ∧ V' 19 7 = V 19 7 + 1 ∧ (∀ e, 0 ≤ e → e < V 15 5 → V' 20 e = if V 16 e = dg (V 15 3) e 1 then 0 else 1) ∧ sm2 19 20 V V')) := by
  refine Ok.intro (by decide +kernel) (Nat.le_of_ble_eq_true rfl) (fun X G hX hG hR hoa hoV => ?_)
  show J X G 0 [vA 19, vA 15, vU] [] V
  have hb9 := ho9.b
  refine j_al0 hX dX8_becomeMoverOf_0 rfl ?_
  refine j_al1 hX dX8_becomeMoverOf_1 rfl ?_
  refine j_getI hX hG fl_X8_22 (Or.inl rfl) (by decide) dX8_becomeMoverOf_2 ?_
  refine j_al1 hX dX8_becomeMoverOf_5 rfl ?_
  refine j_getI hX hG fl_X8_26 (Or.inl rfl) (by decide) dX8_becomeMoverOf_6 ?_
  refine j_cVV2 (ci := 8) hX hG lk_X8_48 (ok_X8_restart (Or.inr (Or.inr rfl)) (by first | assumption | omega | decide) (by first | assumption | omega | decide) (by first | assumption | omega | decide)) (by decide) rfl (Nat.le_of_ble_eq_true rfl) (Nat.le_of_ble_eq_true rfl) (Nat.le_of_ble_eq_true rfl) rfl dX8_becomeMoverOf_9 (fun V_9 h_9 => ?_)
  obtain ⟨r1, r2, r3, r4, -, r6⟩ := h_9
  obtain ⟨r7, r8⟩ := RO.det ho9 r1 r2 r3
  try dsimp only [Int.reduceAdd]
  refine j_iconst hX dX8_becomeMoverOf_12 ⟨by decide, by decide⟩ ?_
  refine j_is2 hX dX8_becomeMoverOf_13 rfl ?_
  have lp_14 : ∀ (f9 : Nat) (i : Int) (W : VV), (0 ≤ i ∧ i ≤ V 15 5) → (sm1 20 V_9 W) → (∀ e, 0 ≤ e → e < i → W 20 e = if V 16 e = dg (V 15 3) e 1 then 0 else 1) → ((V 15 5 - i).toNat) < f9 → J X G 14 [vA 19, vA 15, vI i] [] W := by
    intro f9
    induction f9 with
    | zero => intro i W _ _ _ hm; exact absurd hm (Nat.not_lt_zero _)
    | succ f9 ih_14 =>
      intro i W hi hs hT hm
      refine j_il2 hX dX8_becomeMoverOf_14 ?_
      refine j_al0 hX dX8_becomeMoverOf_15 rfl ?_
      refine j_getI hX hG fl_X8_36 (Or.inl rfl) (by decide) dX8_becomeMoverOf_16 ?_
      refine j_icmp_ge (tgt := 60) hX dX8_becomeMoverOf_19 (by decide) (fun h_19 => ?_) (fun h_19 => ?_)
      · skip
        exact j_ret hR dX8_becomeMoverOf_60 (by have e5 := hs 19 5 (by decide); exact ⟨r1.sm (fun b => hs 19 b (by decide)), by rw [hs 19 3 (by decide)]; exact r2, by rw [hs 19 4 (by decide)]; exact r3, by rw [hs 19 7 (by decide)]; exact r4, fun e h0 h1 => hT e h0 (by omega), sm2_t r6 (sm1_2 hs)⟩)
      · skip
        have q5 := hs 19 5 (by decide)
        have q4 := hs 19 4 (by decide)
        have q3 := hs 19 3 (by decide)
        have qo := r1.sm (fun b => hs 19 b (by decide))
        have qT : W 16 i = V 16 i := (hs 16 i (by decide)).trans (r6 16 i (by decide) (by decide))
        refine j_al0 hX dX8_becomeMoverOf_22 rfl ?_
        refine j_getR (q := 20) hX hG fl_X8_9 rfl rfl (by decide) dX8_becomeMoverOf_23 ?_
        refine j_il2 hX dX8_becomeMoverOf_26 ?_
        refine j_al1 hX dX8_becomeMoverOf_27 rfl ?_
        refine j_il2 hX dX8_becomeMoverOf_28 ?_
        refine j_pVI1 (ci := 8) hX hG lk_X8_52 (ok_X8_gives (Or.inr (Or.inl rfl)) (by omega)) (by decide) rfl (Nat.le_of_ble_eq_true rfl) (Nat.le_of_ble_eq_true rfl) (Nat.le_of_ble_eq_true rfl) rfl dX8_becomeMoverOf_29 ?_
        try dsimp only [Int.reduceAdd]
        refine j_al0 hX dX8_becomeMoverOf_32 rfl ?_
        refine j_il2 hX dX8_becomeMoverOf_33 ?_
        refine j_al0 hX dX8_becomeMoverOf_34 rfl ?_
        refine j_getI hX hG fl_X8_26 (Or.inl rfl) (by decide) dX8_becomeMoverOf_35 ?_
        refine j_iconst hX dX8_becomeMoverOf_38 ⟨by decide, by decide⟩ ?_
        refine j_isub hX dX8_becomeMoverOf_39 (by omega) ?_
        refine j_pVI2 (ci := 8) hX hG lk_X8_60 (ok_X8_stateOf (Or.inr (Or.inr rfl)) (by first | assumption | omega | decide) hi.1 (by first | assumption | omega | decide)) (by decide) rfl (Nat.le_of_ble_eq_true rfl) (Nat.le_of_ble_eq_true rfl) (Nat.le_of_ble_eq_true rfl) rfl dX8_becomeMoverOf_40 ?_
        try dsimp only [Int.reduceAdd]
        have ed : (W 19 4 - 1 - (W 19 4 - 2)).toNat = 1 := by omega
        refine j_eqS (st' := [vI (dg (V 15 3) i 1), vI (V 16 i), vI i, vA 20]) (by rw [qT, ed, q3, r2]) ?_
        refine j_icmp_ne (tgt := 50) hX dX8_becomeMoverOf_43 (by decide) (fun h_43 => ?_) (fun h_43 => ?_)
        · skip
          refine j_iconst hX dX8_becomeMoverOf_50 ⟨by decide, by decide⟩ ?_
          refine j_cSV3 hX hG lk_X8_56 (ok_X11_put_in (n := 216) (by decide) (by first | assumption | decide) (by first | assumption | omega | decide)) (Nat.le_of_ble_eq_true rfl) (Nat.le_of_ble_eq_true rfl) (Nat.le_of_ble_eq_true rfl) rfl dX8_becomeMoverOf_51 (fun V_51 h_51 => ?_)
          subst h_51
          refine j_inc2 hX dX8_becomeMoverOf_54 rfl (by omega) ?_
          refine j_goto (tgt := 14) hX dX8_becomeMoverOf_57 (by decide) ?_
          exact ih_14 _ _ (by omega) (sm1_u hs) (lt_stepI (fun b h8 h9 => by rw [up_n _ (by omega)]; exact hT b h8 h9) (by rw [up_s]; first | rw [if_pos (by omega)] | rw [if_neg (by omega)])) (by omega)
        · skip
          refine j_iconst hX dX8_becomeMoverOf_46 ⟨by decide, by decide⟩ ?_
          refine j_goto (tgt := 51) hX dX8_becomeMoverOf_47 (by decide) ?_
          refine j_cSV3 hX hG lk_X8_56 (ok_X11_put_in (n := 216) (by decide) (by first | assumption | decide) (by first | assumption | omega | decide)) (Nat.le_of_ble_eq_true rfl) (Nat.le_of_ble_eq_true rfl) (Nat.le_of_ble_eq_true rfl) rfl dX8_becomeMoverOf_51 (fun V_51 h_51 => ?_)
          subst h_51
          refine j_inc2 hX dX8_becomeMoverOf_54 rfl (by omega) ?_
          refine j_goto (tgt := 14) hX dX8_becomeMoverOf_57 (by decide) ?_
          exact ih_14 _ _ (by omega) (sm1_u hs) (lt_stepI (fun b h8 h9 => by rw [up_n _ (by omega)]; exact hT b h8 h9) (by rw [up_s]; first | rw [if_pos (by omega)] | rw [if_neg (by omega)])) (by omega)
  exact lp_14 _ _ _ (by omega) sm1_0 (by omega) (Nat.lt_succ_self _)
set_option maxHeartbeats 4000000 in
theorem ok_X8_countWords {V : VV} {s : Int} (ho9 : RO V 15) : Ok NC yX8_countWords cX8_countWords 4 (some .int) 2 42 [vA 15, vI s] V (pI (fun x9 V' => x9 = cntI (fun e => V 16 e == s) (V 15 5).toNat ∧ V' = V)) := by
  refine Ok.intro (by decide +kernel) (Nat.le_of_ble_eq_true rfl) (fun X G hX hG hR hoa hoV => ?_)
  show J X G 0 [vA 15, vI s, vU, vU] [] V
  have hb9 := ho9.b
  refine j_iconst hX dX8_countWords_0 ⟨by decide, by decide⟩ ?_
  refine j_is2 hX dX8_countWords_1 rfl ?_
  refine j_iconst hX dX8_countWords_2 ⟨by decide, by decide⟩ ?_
  refine j_is3 hX dX8_countWords_3 rfl ?_
  have lp_4 : ∀ (f9 : Nat) (c i : Int), (0 ≤ i ∧ i ≤ V 15 5) → (c = cntI (fun e => V 16 e == s) i.toNat) → (0 ≤ c ∧ c ≤ i) → ((V 15 5 - i).toNat) < f9 → J X G 4 [vA 15, vI s, vI c, vI i] [] V := by
    intro f9
    induction f9 with
    | zero => intro c i _ _ _ hm; exact absurd hm (Nat.not_lt_zero _)
    | succ f9 ih_4 =>
      intro c i hi hc hb hm
      refine j_il3 hX dX8_countWords_4 ?_
      refine j_al0 hX dX8_countWords_5 rfl ?_
      refine j_getI hX hG fl_X8_36 (Or.inl rfl) (by decide) dX8_countWords_6 ?_
      refine j_icmp_ge (tgt := 30) hX dX8_countWords_9 (by decide) (fun h_9 => ?_) (fun h_9 => ?_)
      · skip
        refine j_il2 hX dX8_countWords_30 ?_
        exact j_retI hR dX8_countWords_31 ⟨by rw [hc, show i = V 15 5 by omega], rfl⟩
      · skip
        refine j_al0 hX dX8_countWords_12 rfl ?_
        refine j_il3 hX dX8_countWords_13 ?_
        refine j_pVI1 (ci := 8) hX hG lk_X8_52 (ok_X8_gives (Or.inr (Or.inl rfl)) (by first | assumption | omega | decide)) (by decide) rfl (Nat.le_of_ble_eq_true rfl) (Nat.le_of_ble_eq_true rfl) (Nat.le_of_ble_eq_true rfl) rfl dX8_countWords_14 ?_
        try dsimp only [Int.reduceAdd]
        refine j_il1 hX dX8_countWords_17 ?_
        refine j_icmp_ne (tgt := 24) hX dX8_countWords_18 (by decide) (fun h_18 => ?_) (fun h_18 => ?_)
        · skip
          refine j_inc3 hX dX8_countWords_24 rfl (by omega) ?_
          refine j_goto (tgt := 4) hX dX8_countWords_27 (by decide) ?_
          exact ih_4 _ _ (by omega) (by rw [cntI_S hi.1, hc]; first | rw [if_pos (by simpa using h_18)] | (rw [if_neg (by simpa using h_18)]; omega)) (by omega) (by omega)
        · skip
          refine j_inc2 hX dX8_countWords_21 rfl (by omega) ?_
          refine j_inc3 hX dX8_countWords_24 rfl (by omega) ?_
          refine j_goto (tgt := 4) hX dX8_countWords_27 (by decide) ?_
          exact ih_4 _ _ (by omega) (by rw [cntI_S hi.1, hc]; first | rw [if_pos (by simpa using h_18)] | (rw [if_neg (by simpa using h_18)]; omega)) (by omega) (by omega)
  exact lp_4 _ _ _ (by omega) rfl ⟨by decide, by decide⟩ (Nat.lt_succ_self _)
set_option maxHeartbeats 4000000 in
theorem ok_X8_isWordOf {V : VV} {e : Int} {s : Nat} (ho9 : RO V 15) (he : 0 ≤ e) (hs0 : s < 64) : Ok NC yX8_isWordOf cX8_isWordOf 4 (some .boolean) 3 66 [vA 15, vI e, vI (s : Int)] V (pI (fun x9 V' => x9 = (if inWb s (V 15 3) (V 15 4) e = true then 1 else 0) ∧ V' = V)) := by
  refine Ok.intro (by decide +kernel) (Nat.le_of_ble_eq_true rfl) (fun X G hX hG hR hoa hoV => ?_)
  show J X G 0 [vA 15, vI e, vI (s : Int), vU] [] V
  have hb9 := ho9.b
  refine j_iconst hX dX8_isWordOf_0 ⟨by decide, by decide⟩ ?_
  refine j_is3 hX dX8_isWordOf_1 rfl ?_
  have lp_2 : ∀ (f9 : Nat) (p : Int), (0 ≤ p ∧ p ≤ V 15 4) → (∀ j : Int, 0 ≤ j → j < p → s.testBit (dg (V 15 3) e (V 15 4 - 1 - j).toNat).toNat = true) → ((V 15 4 - p).toNat) < f9 → J X G 2 [vA 15, vI e, vI (s : Int), vI p] [] V := by
    intro f9
    induction f9 with
    | zero => intro p _ _ hm; exact absurd hm (Nat.not_lt_zero _)
    | succ f9 ih_2 =>
      intro p hp hi hm
      refine j_il3 hX dX8_isWordOf_2 ?_
      refine j_al0 hX dX8_isWordOf_3 rfl ?_
      refine j_getI hX hG fl_X8_26 (Or.inl rfl) (by decide) dX8_isWordOf_4 ?_
      refine j_icmp_ge (tgt := 31) hX dX8_isWordOf_7 (by decide) (fun h_7 => ?_) (fun h_7 => ?_)
      · skip
        refine j_iconst hX dX8_isWordOf_31 ⟨by decide, by decide⟩ ?_
        exact j_retZ hR dX8_isWordOf_32 (by omega) ⟨by rw [if_pos]; refine inWb_t.mpr fun j hj => ?_; have := hi (V 15 4 - 1 - j) (by omega) (by omega); rwa [show (V 15 4 - 1 - (V 15 4 - 1 - (j : Int))).toNat = j by omega] at this, rfl⟩
      · skip
        refine j_il2 hX dX8_isWordOf_10 ?_
        refine j_al0 hX dX8_isWordOf_11 rfl ?_
        refine j_il1 hX dX8_isWordOf_12 ?_
        refine j_il3 hX dX8_isWordOf_13 ?_
        refine j_pVI2 (ci := 8) hX hG lk_X8_60 (ok_X8_stateOf (Or.inr (Or.inl rfl)) (by first | assumption | omega | decide) (by first | assumption | omega | decide) (by first | assumption | omega | decide)) (by decide) rfl (Nat.le_of_ble_eq_true rfl) (Nat.le_of_ble_eq_true rfl) (Nat.le_of_ble_eq_true rfl) rfl dX8_isWordOf_14 ?_
        try dsimp only [Int.reduceAdd]
        have hd9 := dg_b (g := V 15 3) (e := e) (j := (V 15 4 - 1 - p).toNat) (by omega)
        refine j_ishr hX dX8_isWordOf_17 (by omega) ?_
        refine j_iconst hX dX8_isWordOf_18 ⟨by decide, by decide⟩ ?_
        refine j_iand hX dX8_isWordOf_19 ?_
        refine j_if_ne (tgt := 25) hX dX8_isWordOf_20 (by decide) (fun h_20 => ?_) (fun h_20 => ?_)
        · skip
          refine j_inc3 hX dX8_isWordOf_25 rfl (by omega) ?_
          refine j_goto (tgt := 2) hX dX8_isWordOf_28 (by decide) ?_
          exact ih_2 _ (by omega) (lt_stepI hi ((hasN_1 (by omega) (by omega)).mp h_20)) (by omega)
        · skip
          refine j_iconst hX dX8_isWordOf_23 ⟨by decide, by decide⟩ ?_
          exact j_retZ hR dX8_isWordOf_24 (by omega) ⟨by rw [if_neg]; intro q; have q2 := (inWb_t.mp q) (V 15 4 - 1 - p).toNat (by omega); rw [(hasN_0 (by omega) (by omega)).mp h_20] at q2; exact absurd q2 (by decide), rfl⟩
  exact lp_2 _ _ (by omega) (by omega) (Nat.lt_succ_self _)
set_option maxHeartbeats 4000000 in
theorem ok_X8_staysWithin {V : VV} {s : Nat} (ho9 : RO V 15) (ht : TR V 15) (hs0 : s < 64) : Ok NC yX8_staysWithin cX8_staysWithin 3 (some .boolean) 4 89 [vA 15, vI (s : Int)] V (pI (fun x9 V' => x9 = (if stayB (V 16) s (V 15 3) (V 15 4) (V 15 5) = true then 1 else 0) ∧ V' = V)) := by
  refine Ok.intro (by decide +kernel) (Nat.le_of_ble_eq_true rfl) (fun X G hX hG hR hoa hoV => ?_)
  show J X G 0 [vA 15, vI (s : Int), vU] [] V
  have hb9 := ho9.b
  refine j_iconst hX dX8_staysWithin_0 ⟨by decide, by decide⟩ ?_
  refine j_is2 hX dX8_staysWithin_1 rfl ?_
  have lp_2 : ∀ (f9 : Nat) (e : Int), (0 ≤ e ∧ e ≤ V 15 5) → (∀ j : Int, 0 ≤ j → j < e → (!inWb s (V 15 3) (V 15 4) j || s.testBit (V 16 j).toNat) = true) → ((V 15 5 - e).toNat) < f9 → J X G 2 [vA 15, vI (s : Int), vI e] [] V := by
    intro f9
    induction f9 with
    | zero => intro e _ _ hm; exact absurd hm (Nat.not_lt_zero _)
    | succ f9 ih_2 =>
      intro e he hi hm
      refine j_il2 hX dX8_staysWithin_2 ?_
      refine j_al0 hX dX8_staysWithin_3 rfl ?_
      refine j_getI hX hG fl_X8_36 (Or.inl rfl) (by decide) dX8_staysWithin_4 ?_
      refine j_icmp_ge (tgt := 39) hX dX8_staysWithin_7 (by decide) (fun h_7 => ?_) (fun h_7 => ?_)
      · skip
        refine j_iconst hX dX8_staysWithin_39 ⟨by decide, by decide⟩ ?_
        exact j_retZ hR dX8_staysWithin_40 (by omega) ⟨by rw [if_pos]; exact (allR (p := fun e => !inWb s (V 15 3) (V 15 4) e || s.testBit (V 16 e).toNat)).mpr (fun j h0 h1 => hi j h0 (by omega)), rfl⟩
      · skip
        refine j_al0 hX dX8_staysWithin_10 rfl ?_
        refine j_il2 hX dX8_staysWithin_11 ?_
        refine j_il1 hX dX8_staysWithin_12 ?_
        refine j_pVI2 (ci := 8) hX hG lk_X8_114 (ok_X8_isWordOf (by first | assumption | omega | decide) he.1 (by first | assumption | omega | decide)) (by decide) rfl (Nat.le_of_ble_eq_true rfl) (Nat.le_of_ble_eq_true rfl) (Nat.le_of_ble_eq_true rfl) rfl dX8_staysWithin_13 ?_
        refine j_ifz_eq (tgt := 33) hX dX8_staysWithin_16 (by decide) (fun h_16 => ?_) (fun h_16 => ?_)
        · skip
          refine j_inc2 hX dX8_staysWithin_33 rfl (by omega) ?_
          refine j_goto (tgt := 2) hX dX8_staysWithin_36 (by decide) ?_
          exact ih_2 _ (by omega) (lt_stepI hi (by first | (rw [(hasN_1 (by omega) (by omega)).mp h_28, Bool.or_true]) | (rw [show inWb s (V 15 3) (V 15 4) e = false by simpa using h_16]; rfl))) (by omega)
        · skip
          have ht9 : 0 ≤ V 16 e ∧ V 16 e < V 15 3 := ht e he.1 (by omega)
          refine j_il1 hX dX8_staysWithin_19 ?_
          refine j_al0 hX dX8_staysWithin_20 rfl ?_
          refine j_il2 hX dX8_staysWithin_21 ?_
          refine j_pVI1 (ci := 8) hX hG lk_X8_52 (ok_X8_gives (Or.inr (Or.inl rfl)) (by first | assumption | omega | decide)) (by decide) rfl (Nat.le_of_ble_eq_true rfl) (Nat.le_of_ble_eq_true rfl) (Nat.le_of_ble_eq_true rfl) rfl dX8_staysWithin_22 ?_
          try dsimp only [Int.reduceAdd]
          refine j_ishr hX dX8_staysWithin_25 (by omega) ?_
          refine j_iconst hX dX8_staysWithin_26 ⟨by decide, by decide⟩ ?_
          refine j_iand hX dX8_staysWithin_27 ?_
          refine j_if_ne (tgt := 33) hX dX8_staysWithin_28 (by decide) (fun h_28 => ?_) (fun h_28 => ?_)
          · skip
            refine j_inc2 hX dX8_staysWithin_33 rfl (by omega) ?_
            refine j_goto (tgt := 2) hX dX8_staysWithin_36 (by decide) ?_
            exact ih_2 _ (by omega) (lt_stepI hi (by first | (rw [(hasN_1 (by omega) (by omega)).mp h_28, Bool.or_true]) | (rw [show inWb s (V 15 3) (V 15 4) e = false by simpa using h_16]; rfl))) (by omega)
          · skip
            refine j_iconst hX dX8_staysWithin_31 ⟨by decide, by decide⟩ ?_
            exact j_retZ hR dX8_staysWithin_32 (by omega) ⟨by rw [if_neg]; exact allR_f (p := fun e => !inWb s (V 15 3) (V 15 4) e || s.testBit (V 16 e).toNat) he.1 (by omega) (by simp only [h_16, (hasN_0 (s := s) (y := V 16 e) (by omega) (by omega)).mp h_28]; rfl), rfl⟩
  exact lp_2 _ _ (by omega) (by omega) (Nat.lt_succ_self _)
set_option maxHeartbeats 4000000 in
theorem ok_X8_isOneToOneFrom {V : VV} {e t : Int} (ho9 : RO V 15) (ht : TR V 15) (he : ∀ x, 0 ≤ x → x < V 15 3 → (0 ≤ x * t ∧ x * t ≤ 100000) ∧ 0 ≤ e + x * t ∧ e + x * t < V 15 5) : Ok NC yX8_isOneToOneFrom cX8_isOneToOneFrom 5 (some .boolean) 2 42 [vA 15, vI e, vI t] V (pI (fun x9 V' => x9 = (if stG (fun x => V 16 (e + x * t)) (V 15 3).toNat = 2 ^ (V 15 3).toNat - 1 then 1 else 0) ∧ V' = V)) := by
  refine Ok.intro (by decide +kernel) (Nat.le_of_ble_eq_true rfl) (fun X G hX hG hR hoa hoV => ?_)
  show J X G 0 [vA 15, vI e, vI t, vU, vU] [] V
  have hb9 := ho9.b
  have hp9 := p2g (g := V 15 3) (by omega)
  refine j_iconst hX dX8_isOneToOneFrom_0 ⟨by decide, by decide⟩ ?_
  refine j_is3 hX dX8_isOneToOneFrom_1 rfl ?_
  refine j_iconst hX dX8_isOneToOneFrom_2 ⟨by decide, by decide⟩ ?_
  refine j_is4 hX dX8_isOneToOneFrom_3 rfl ?_
  have lp_5 : ∀ (f9 : Nat) (a x : Int), (0 ≤ x ∧ x ≤ V 15 3) → (a = stG (fun x => V 16 (e + x * t)) x.toNat) → ((V 15 3 - x).toNat) < f9 → J X G 5 [vA 15, vI e, vI t, vI a, vI x] [] V := by
    intro f9
    induction f9 with
    | zero => intro a x _ _ hm; exact absurd hm (Nat.not_lt_zero _)
    | succ f9 ih_5 =>
      intro a x hx ha hm
      refine j_il4 hX dX8_isOneToOneFrom_5 ?_
      refine j_al0 hX dX8_isOneToOneFrom_7 rfl ?_
      refine j_getI hX hG fl_X8_22 (Or.inl rfl) (by decide) dX8_isOneToOneFrom_8 ?_
      refine j_icmp_ge (tgt := 35) hX dX8_isOneToOneFrom_11 (by decide) (fun h_11 => ?_) (fun h_11 => ?_)
      · skip
        refine j_il3 hX dX8_isOneToOneFrom_35 ?_
        refine j_iconst hX dX8_isOneToOneFrom_36 ⟨by decide, by decide⟩ ?_
        refine j_al0 hX dX8_isOneToOneFrom_37 rfl ?_
        refine j_getI hX hG fl_X8_22 (Or.inl rfl) (by decide) dX8_isOneToOneFrom_38 ?_
        refine j_ishl hX dX8_isOneToOneFrom_41 (by omega) (p2_30 (by omega)) ?_
        refine j_iconst hX dX8_isOneToOneFrom_42 ⟨by decide, by decide⟩ ?_
        refine j_isub hX dX8_isOneToOneFrom_43 (by omega) ?_
        refine j_icmp_ne (tgt := 51) hX dX8_isOneToOneFrom_44 (by decide) (fun h_44 => ?_) (fun h_44 => ?_)
        · skip
          refine j_iconst hX dX8_isOneToOneFrom_51 ⟨by decide, by decide⟩ ?_
          exact j_retZ hR dX8_isOneToOneFrom_52 (by omega) ⟨by first | (rw [if_pos]; rw [show x = V 15 3 by omega] at ha; omega) | (rw [if_neg]; rw [show x = V 15 3 by omega] at ha; omega), rfl⟩
        · skip
          refine j_iconst hX dX8_isOneToOneFrom_47 ⟨by decide, by decide⟩ ?_
          refine j_goto (tgt := 52) hX dX8_isOneToOneFrom_48 (by decide) ?_
          exact j_retZ hR dX8_isOneToOneFrom_52 (by omega) ⟨by first | (rw [if_pos]; rw [show x = V 15 3 by omega] at ha; omega) | (rw [if_neg]; rw [show x = V 15 3 by omega] at ha; omega), rfl⟩
      · skip
        have h9 := he x hx.1 (by omega)
        have ht9 : 0 ≤ V 16 (e + x * t) ∧ V 16 (e + x * t) < V 15 3 := ht _ h9.2.1 h9.2.2
        refine j_il3 hX dX8_isOneToOneFrom_14 ?_
        refine j_iconst hX dX8_isOneToOneFrom_15 ⟨by decide, by decide⟩ ?_
        refine j_al0 hX dX8_isOneToOneFrom_16 rfl ?_
        refine j_il1 hX dX8_isOneToOneFrom_17 ?_
        refine j_il4 hX dX8_isOneToOneFrom_18 ?_
        refine j_il2 hX dX8_isOneToOneFrom_20 ?_
        refine j_imul hX dX8_isOneToOneFrom_21 (by omega) ?_
        refine j_iadd hX dX8_isOneToOneFrom_22 (by omega) ?_
        refine j_pVI1 (ci := 8) hX hG lk_X8_52 (ok_X8_gives (Or.inr (Or.inl rfl)) (by first | assumption | omega | decide)) (by decide) rfl (Nat.le_of_ble_eq_true rfl) (Nat.le_of_ble_eq_true rfl) (Nat.le_of_ble_eq_true rfl) rfl dX8_isOneToOneFrom_23 ?_
        try dsimp only [Int.reduceAdd]
        refine j_ishl hX dX8_isOneToOneFrom_26 (by omega) (p2_30 (by omega)) ?_
        refine j_ior hX dX8_isOneToOneFrom_27 ?_
        refine j_is3 hX dX8_isOneToOneFrom_28 rfl ?_
        refine j_inc4 hX dX8_isOneToOneFrom_29 rfl (by omega) ?_
        refine j_goto (tgt := 5) hX dX8_isOneToOneFrom_32 (by decide) ?_
        exact ih_5 _ _ (by omega) (by rw [stG_S hx.1, ha]) (by omega)
  exact lp_5 _ _ _ (by omega) rfl (Nat.lt_succ_self _)
