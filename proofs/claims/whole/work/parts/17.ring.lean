set_option maxHeartbeats 4000000 in
theorem ok_X7_has {V : VV} {r x : Int} (hr : rng r) : Ok NC yX7_has cX7_has 2 (some .boolean) 0 0 [vA r, vI x] V (pI (fun x9 V' => x9 = (if 0 ≤ x ∧ x < V r 1 then 1 else 0) ∧ V' = V)) := by
  refine Ok.intro (by decide +kernel) (Nat.le_of_ble_eq_true rfl) (fun X G hX hG hR hoa hoV => ?_)
  show J X G 0 [vA r, vI x] [] V
  refine j_il1 hX dX7_has_0 ?_
  refine j_if_lt (tgt := 16) hX dX7_has_1 (by decide) (fun h_1 => ?_) (fun h_1 => ?_)
  · skip
    refine j_iconst hX dX7_has_16 ⟨by decide, by decide⟩ ?_
    exact j_retZ hR dX7_has_17 (by omega) ⟨by first | rw [if_pos (by omega)] | rw [if_neg (by omega)], rfl⟩
  · skip
    refine j_il1 hX dX7_has_4 ?_
    refine j_al0 hX dX7_has_5 rfl ?_
    refine j_getI hX hG fl_X7_15 (Or.inl rfl) (by first | assumption | decide | exact ob8 (by assumption) | exact ob7 (by assumption) | exact ob2 (by assumption)) dX7_has_6 ?_
    refine j_icmp_ge (tgt := 16) hX dX7_has_9 (by decide) (fun h_9 => ?_) (fun h_9 => ?_)
    · skip
      refine j_iconst hX dX7_has_16 ⟨by decide, by decide⟩ ?_
      exact j_retZ hR dX7_has_17 (by omega) ⟨by first | rw [if_pos (by omega)] | rw [if_neg (by omega)], rfl⟩
    · skip
      refine j_iconst hX dX7_has_12 ⟨by decide, by decide⟩ ?_
      refine j_goto (tgt := 17) hX dX7_has_13 (by decide) ?_
      exact j_retZ hR dX7_has_17 (by omega) ⟨by first | rw [if_pos (by omega)] | rw [if_neg (by omega)], rfl⟩
set_option maxHeartbeats 4000000 in
theorem ok_X7_stateOf {V : VV} {r i : Int} (hr : rng r) (hi : 0 ≤ i ∧ i < 16) : Ok NC yX7_stateOf cX7_stateOf 2 (some .int) 1 21 [vA r, vI i] V (pI (fun x9 V' => x9 = V (r + 1) i ∧ V' = V)) := by
  refine Ok.intro (by decide +kernel) (Nat.le_of_ble_eq_true rfl) (fun X G hX hG hR hoa hoV => ?_)
  show J X G 0 [vA r, vI i] [] V
  refine j_al0 hX dX7_stateOf_0 rfl ?_
  refine j_getR (q := r + 1) hX hG fl_X7_9 rfl (by first | rfl | exact rf7_0 (by assumption)) (by first | assumption | decide | exact ob8 (by assumption) | exact ob7 (by assumption) | exact ob2 (by assumption)) dX7_stateOf_1 ?_
  refine j_il1 hX dX7_stateOf_4 ?_
  refine j_pSI2 hX hG lk_X7_19 (ok_X11_at_in (by first | assumption | decide | exact ar8a (by assumption) | exact ar8b (by assumption) | exact ar8c (by assumption) | exact ar7 (by assumption) | exact ar2 (by assumption)) (by first | assumption | decide) (by first | assumption | omega | decide)) (Nat.le_of_ble_eq_true rfl) (Nat.le_of_ble_eq_true rfl) (Nat.le_of_ble_eq_true rfl) rfl dX7_stateOf_5 ?_
  exact j_retI hR dX7_stateOf_8 ⟨by first | rfl | omega | (exfalso; omega), rfl⟩
set_option maxHeartbeats 4000000 in
theorem ok_X7_stateAround {V : VV} {r i : Int} (hr : rng r) (hn : 1 ≤ V r 1 ∧ V r 1 ≤ 16) : Ok NC yX7_stateAround cX7_stateAround 2 (some .int) 2 43 [vA r, vI i] V (pI (fun x9 V' => x9 = V (r + 1) (i % V r 1) ∧ V' = V)) := by
  refine Ok.intro (by decide +kernel) (Nat.le_of_ble_eq_true rfl) (fun X G hX hG hR hoa hoV => ?_)
  show J X G 0 [vA r, vI i] [] V
  refine j_al0 hX dX7_stateAround_0 rfl ?_
  refine j_getR (q := r + 1) hX hG fl_X7_9 rfl (by first | rfl | exact rf7_0 (by assumption)) (by first | assumption | decide | exact ob8 (by assumption) | exact ob7 (by assumption) | exact ob2 (by assumption)) dX7_stateAround_1 ?_
  refine j_il1 hX dX7_stateAround_4 ?_
  refine j_al0 hX dX7_stateAround_5 rfl ?_
  refine j_getI hX hG fl_X7_15 (Or.inl rfl) (by first | assumption | decide | exact ob8 (by assumption) | exact ob7 (by assumption) | exact ob2 (by assumption)) dX7_stateAround_6 ?_
  refine j_pSI2 hX hG lk_X7_23 (ok_X11_around_in (by first | assumption | omega | decide)) (Nat.le_of_ble_eq_true rfl) (Nat.le_of_ble_eq_true rfl) (Nat.le_of_ble_eq_true rfl) rfl dX7_stateAround_9 ?_
  refine j_pSI2 hX hG lk_X7_19 (ok_X11_at_in (by first | assumption | decide | exact ar8a (by assumption) | exact ar8b (by assumption) | exact ar8c (by assumption) | exact ar7 (by assumption) | exact ar2 (by assumption)) (by first | assumption | decide) (by have := md_b i hn.1; omega)) (Nat.le_of_ble_eq_true rfl) (Nat.le_of_ble_eq_true rfl) (Nat.le_of_ble_eq_true rfl) rfl dX7_stateAround_12 ?_
  exact j_retI hR dX7_stateAround_15 ⟨by first | rfl | omega | (exfalso; omega), rfl⟩
set_option maxHeartbeats 4000000 in
theorem ok_X7_setTo {V : VV} {r i x : Int} (hr : rng r) (hi : 0 ≤ i ∧ i < 16) : Ok NC yX7_setTo cX7_setTo 3 none 1 22 [vA r, vI i, vI x] V (pV (fun V' => V' = up V (r + 1) i x)) := by
  refine Ok.intro (by decide +kernel) (Nat.le_of_ble_eq_true rfl) (fun X G hX hG hR hoa hoV => ?_)
  show J X G 0 [vA r, vI i, vI x] [] V
  refine j_al0 hX dX7_setTo_0 rfl ?_
  refine j_getR (q := r + 1) hX hG fl_X7_9 rfl (by first | rfl | exact rf7_0 (by assumption)) (by first | assumption | decide | exact ob8 (by assumption) | exact ob7 (by assumption) | exact ob2 (by assumption)) dX7_setTo_1 ?_
  refine j_il1 hX dX7_setTo_4 ?_
  refine j_il2 hX dX7_setTo_5 ?_
  refine j_cSV3 hX hG lk_X7_27 (ok_X11_put_in (by first | assumption | decide | exact ar8a (by assumption) | exact ar8b (by assumption) | exact ar8c (by assumption) | exact ar7 (by assumption) | exact ar2 (by assumption)) (by first | assumption | decide) (by first | assumption | omega | decide)) (Nat.le_of_ble_eq_true rfl) (Nat.le_of_ble_eq_true rfl) (Nat.le_of_ble_eq_true rfl) rfl dX7_setTo_6 (fun V_6 h_6 => ?_)
  subst h_6
  exact j_ret hR dX7_setTo_9 rfl
set_option maxHeartbeats 4000000 in
theorem ok_X7_add {V : VV} {r x : Int} (hr : rng r) (hn : 0 ≤ V r 1 ∧ V r 1 < 16) : Ok NC yX7_add cX7_add 2 none 2 44 [vA r, vI x] V (pV (fun V' => V' = up (up V (r + 1) (V r 1) x) r 1 (V r 1 + 1))) := by
  refine Ok.intro (by decide +kernel) (Nat.le_of_ble_eq_true rfl) (fun X G hX hG hR hoa hoV => ?_)
  show J X G 0 [vA r, vI x] [] V
  refine j_al0 hX dX7_add_0 rfl ?_
  refine j_getI hX hG fl_X7_15 (Or.inl rfl) (by first | assumption | decide | exact ob8 (by assumption) | exact ob7 (by assumption) | exact ob2 (by assumption)) dX7_add_1 ?_
  refine j_bipush hX dX7_add_4 (by decide) ⟨by decide, by decide⟩ ?_
  refine j_icmp_ge (tgt := 28) hX dX7_add_6 (by decide) (fun h_6 => ?_) (fun h_6 => ?_)
  · skip
    exact j_ret hR dX7_add_28 (by first | (exfalso; omega) | (congr 1; rw [up_n _ (by omega)]))
  · skip
    refine j_al0 hX dX7_add_9 rfl ?_
    refine j_al0 hX dX7_add_10 rfl ?_
    refine j_getI hX hG fl_X7_15 (Or.inl rfl) (by first | assumption | decide | exact ob8 (by assumption) | exact ob7 (by assumption) | exact ob2 (by assumption)) dX7_add_11 ?_
    refine j_il1 hX dX7_add_14 ?_
    refine j_cVV2 (ci := 7) hX hG lk_X7_31 (ok_X7_setTo (by first | assumption | omega | decide) (by first | assumption | omega | decide)) (by first | assumption | decide | exact ob8 (by assumption) | exact ob7 (by assumption) | exact ob2 (by assumption)) rfl (Nat.le_of_ble_eq_true rfl) (Nat.le_of_ble_eq_true rfl) (Nat.le_of_ble_eq_true rfl) rfl dX7_add_15 (fun V_15 h_15 => ?_)
    subst h_15
    refine j_al0 hX dX7_add_18 rfl ?_
    refine j_dup hX dX7_add_19 rfl ?_
    refine j_getI hX hG fl_X7_15 (Or.inl rfl) (by first | assumption | decide | exact ob8 (by assumption) | exact ob7 (by assumption) | exact ob2 (by assumption)) dX7_add_20 ?_
    refine j_iconst hX dX7_add_23 ⟨by decide, by decide⟩ ?_
    refine j_iadd hX dX7_add_24 (by rw [up_n _ (by omega)]; omega) ?_
    refine j_putI hX hG fp_X7_15 rfl (by first | assumption | decide | exact ob8 (by assumption) | exact ob7 (by assumption) | exact ob2 (by assumption)) dX7_add_25 ?_
    exact j_ret hR dX7_add_28 (by first | (exfalso; omega) | (congr 1; rw [up_n _ (by omega)]))
set_option maxHeartbeats 4000000 in
theorem ok_X7_copy {V : VV} {r o : Int} (hr : rng r) (ho : rng o) (hne : r ≠ o) (hn : 0 ≤ V o 1 ∧ V o 1 ≤ 16) : Ok NC yX7_copy cX7_copy 3 none 2 44 [vA r, vA o] V (pV (fun V' => V' r 1 = V o 1 ∧ (∀ b, 0 ≤ b → b < V o 1 → V' (r + 1) b = V (o + 1) b) ∧ sm2 r (r + 1) V V')) := by
  refine Ok.intro (by decide +kernel) (Nat.le_of_ble_eq_true rfl) (fun X G hX hG hR hoa hoV => ?_)
  show J X G 0 [vA r, vA o, vU] [] V
  obtain ⟨hne1, hne2, hne3⟩ := rng_ne hr ho hne
  refine j_al0 hX dX7_copy_0 rfl ?_
  refine j_al1 hX dX7_copy_1 rfl ?_
  refine j_getI hX hG fl_X7_15 (Or.inl rfl) (by first | assumption | decide | exact ob8 (by assumption) | exact ob7 (by assumption) | exact ob2 (by assumption)) dX7_copy_2 ?_
  refine j_putI hX hG fp_X7_15 rfl (by first | assumption | decide | exact ob8 (by assumption) | exact ob7 (by assumption) | exact ob2 (by assumption)) dX7_copy_5 ?_
  refine j_iconst hX dX7_copy_8 ⟨by decide, by decide⟩ ?_
  refine j_is2 hX dX7_copy_9 rfl ?_
  have lp_10 : ∀ (f9 : Nat) (i : Int) (W : VV), (0 ≤ i ∧ i ≤ V o 1) → (sm2 r (r + 1) V W) → (W r 1 = V o 1) → (∀ b, 0 ≤ b → b < i → W (r + 1) b = V (o + 1) b) → ((V o 1 - i).toNat) < f9 → J X G 10 [vA r, vA o, vI i] [] W := by
    intro f9
    induction f9 with
    | zero => intro i W _ _ _ _ hm; exact absurd hm (Nat.not_lt_zero _)
    | succ f9 ih_10 =>
      intro i W hi hs h1 hT hm
      refine j_il2 hX dX7_copy_10 ?_
      refine j_al0 hX dX7_copy_11 rfl ?_
      refine j_getI hX hG fl_X7_15 (Or.inl rfl) (by first | assumption | decide | exact ob8 (by assumption) | exact ob7 (by assumption) | exact ob2 (by assumption)) dX7_copy_12 ?_
      refine j_icmp_ge (tgt := 34) hX dX7_copy_15 (by decide) (fun h_15 => ?_) (fun h_15 => ?_)
      · skip
        exact j_ret hR dX7_copy_34 ⟨h1, fun b h8 h9 => hT b h8 (by omega), hs⟩
      · skip
        refine j_al0 hX dX7_copy_18 rfl ?_
        refine j_il2 hX dX7_copy_19 ?_
        refine j_al1 hX dX7_copy_20 rfl ?_
        refine j_il2 hX dX7_copy_21 ?_
        refine j_pVI1 (ci := 7) hX hG lk_X7_35 (ok_X7_stateOf (by first | assumption | omega | decide) (by first | assumption | omega | decide)) (by first | assumption | decide | exact ob8 (by assumption) | exact ob7 (by assumption) | exact ob2 (by assumption)) rfl (Nat.le_of_ble_eq_true rfl) (Nat.le_of_ble_eq_true rfl) (Nat.le_of_ble_eq_true rfl) rfl dX7_copy_22 ?_
        refine j_cVV2 (ci := 7) hX hG lk_X7_31 (ok_X7_setTo (by first | assumption | omega | decide) (by first | assumption | omega | decide)) (by first | assumption | decide | exact ob8 (by assumption) | exact ob7 (by assumption) | exact ob2 (by assumption)) rfl (Nat.le_of_ble_eq_true rfl) (Nat.le_of_ble_eq_true rfl) (Nat.le_of_ble_eq_true rfl) rfl dX7_copy_25 (fun V_25 h_25 => ?_)
        subst h_25
        refine j_inc2 hX dX7_copy_28 rfl (by omega) ?_
        refine j_goto (tgt := 10) hX dX7_copy_31 (by decide) ?_
        exact ih_10 _ _ (by omega) (sm2_u hs (Or.inr rfl)) (by rw [up_n _ (by omega)]; exact h1) (lt_stepI (fun b h8 h9 => by rw [up_n _ (by omega)]; exact hT b h8 h9) (by rw [up_s]; exact hs (o + 1) i (by omega) (by omega))) (by omega)
  exact lp_10 _ _ _ (by omega) (sm2_u sm2_0 (Or.inl rfl)) (by rw [up_s]) (by omega) (Nat.lt_succ_self _)
set_option maxHeartbeats 4000000 in
theorem ok_X7_becomeNeutral {V : VV} {r n : Int} (hr : rng r) : Ok NC yX7_becomeNeutral cX7_becomeNeutral 2 none 1 23 [vA r, vI n] V (pV (fun V' => V' = fillV (up V r 1 n) (r + 1) 16 0)) := by
  refine Ok.intro (by decide +kernel) (Nat.le_of_ble_eq_true rfl) (fun X G hX hG hR hoa hoV => ?_)
  show J X G 0 [vA r, vI n] [] V
  refine j_al0 hX dX7_becomeNeutral_0 rfl ?_
  refine j_il1 hX dX7_becomeNeutral_1 ?_
  refine j_putI hX hG fp_X7_15 rfl (by first | assumption | decide | exact ob8 (by assumption) | exact ob7 (by assumption) | exact ob2 (by assumption)) dX7_becomeNeutral_2 ?_
  refine j_al0 hX dX7_becomeNeutral_5 rfl ?_
  refine j_getR (q := r + 1) hX hG fl_X7_9 rfl (by first | rfl | exact rf7_0 (by assumption)) (by first | assumption | decide | exact ob8 (by assumption) | exact ob7 (by assumption) | exact ob2 (by assumption)) dX7_becomeNeutral_6 ?_
  refine j_iconst hX dX7_becomeNeutral_9 ⟨by decide, by decide⟩ ?_
  refine j_cSV2 hX hG lk_X7_39 (ok_J7_fill_53178 (ar7 (by assumption)) (by first | assumption | decide)) (Nat.le_of_ble_eq_true rfl) (Nat.le_of_ble_eq_true rfl) (Nat.le_of_ble_eq_true rfl) rfl dX7_becomeNeutral_10 (fun V_10 h_10 => ?_)
  subst h_10
  exact j_ret hR dX7_becomeNeutral_13 rfl
set_option maxHeartbeats 4000000 in
theorem ok_X7_countDifferent {V : VV} {r o : Int} (hr : rng r) (ho : rng o) (hn : 0 ≤ V r 1 ∧ V r 1 ≤ 16) : Ok NC yX7_countDifferent cX7_countDifferent 4 (some .int) 2 42 [vA r, vA o] V (pI (fun x9 V' => x9 = cntI (fun k => V (r + 1) k != V (o + 1) k) (V r 1).toNat ∧ V' = V)) := by
  refine Ok.intro (by decide +kernel) (Nat.le_of_ble_eq_true rfl) (fun X G hX hG hR hoa hoV => ?_)
  show J X G 0 [vA r, vA o, vU, vU] [] V
  refine j_iconst hX dX7_countDifferent_0 ⟨by decide, by decide⟩ ?_
  refine j_is2 hX dX7_countDifferent_1 rfl ?_
  refine j_iconst hX dX7_countDifferent_2 ⟨by decide, by decide⟩ ?_
  refine j_is3 hX dX7_countDifferent_3 rfl ?_
  have lp_4 : ∀ (f9 : Nat) (c i : Int), (0 ≤ i ∧ i ≤ V r 1) → (c = cntI (fun k => V (r + 1) k != V (o + 1) k) i.toNat) → (0 ≤ c ∧ c ≤ i) → ((V r 1 - i).toNat) < f9 → J X G 4 [vA r, vA o, vI c, vI i] [] V := by
    intro f9
    induction f9 with
    | zero => intro c i _ _ _ hm; exact absurd hm (Nat.not_lt_zero _)
    | succ f9 ih_4 =>
      intro c i hi hc hb hm
      refine j_il3 hX dX7_countDifferent_4 ?_
      refine j_al0 hX dX7_countDifferent_5 rfl ?_
      refine j_getI hX hG fl_X7_15 (Or.inl rfl) (by first | assumption | decide | exact ob8 (by assumption) | exact ob7 (by assumption) | exact ob2 (by assumption)) dX7_countDifferent_6 ?_
      refine j_icmp_ge (tgt := 34) hX dX7_countDifferent_9 (by decide) (fun h_9 => ?_) (fun h_9 => ?_)
      · skip
        refine j_il2 hX dX7_countDifferent_34 ?_
        exact j_retI hR dX7_countDifferent_35 ⟨by rw [hc, show i = V r 1 by omega], rfl⟩
      · skip
        refine j_al0 hX dX7_countDifferent_12 rfl ?_
        refine j_il3 hX dX7_countDifferent_13 ?_
        refine j_pVI1 (ci := 7) hX hG lk_X7_35 (ok_X7_stateOf (by first | assumption | omega | decide) (by first | assumption | omega | decide)) (by first | assumption | decide | exact ob8 (by assumption) | exact ob7 (by assumption) | exact ob2 (by assumption)) rfl (Nat.le_of_ble_eq_true rfl) (Nat.le_of_ble_eq_true rfl) (Nat.le_of_ble_eq_true rfl) rfl dX7_countDifferent_14 ?_
        refine j_al1 hX dX7_countDifferent_17 rfl ?_
        refine j_il3 hX dX7_countDifferent_18 ?_
        refine j_pVI1 (ci := 7) hX hG lk_X7_35 (ok_X7_stateOf (by first | assumption | omega | decide) (by first | assumption | omega | decide)) (by first | assumption | decide | exact ob8 (by assumption) | exact ob7 (by assumption) | exact ob2 (by assumption)) rfl (Nat.le_of_ble_eq_true rfl) (Nat.le_of_ble_eq_true rfl) (Nat.le_of_ble_eq_true rfl) rfl dX7_countDifferent_19 ?_
        refine j_icmp_eq (tgt := 28) hX dX7_countDifferent_22 (by decide) (fun h_22 => ?_) (fun h_22 => ?_)
        · skip
          refine j_inc3 hX dX7_countDifferent_28 rfl (by omega) ?_
          refine j_goto (tgt := 4) hX dX7_countDifferent_31 (by decide) ?_
          exact ih_4 _ _ (by omega) (by rw [cntI_S hi.1, hc]; first | rw [if_neg (by simpa using h_22)]; omega | rw [if_pos (by simpa using h_22)]) (by omega) (by omega)
        · skip
          refine j_inc2 hX dX7_countDifferent_25 rfl (by omega) ?_
          refine j_inc3 hX dX7_countDifferent_28 rfl (by omega) ?_
          refine j_goto (tgt := 4) hX dX7_countDifferent_31 (by decide) ?_
          exact ih_4 _ _ (by omega) (by rw [cntI_S hi.1, hc]; first | rw [if_neg (by simpa using h_22)]; omega | rw [if_pos (by simpa using h_22)]) (by omega) (by omega)
  exact lp_4 _ _ _ (by omega) rfl ⟨by decide, by decide⟩ (Nat.lt_succ_self _)
set_option maxHeartbeats 4000000 in
theorem ok_X7_countNotZero {V : VV} {r : Int} (hr : rng r) (hn : 0 ≤ V r 1 ∧ V r 1 ≤ 16) : Ok NC yX7_countNotZero cX7_countNotZero 3 (some .int) 2 42 [vA r] V (pI (fun x9 V' => x9 = cntI (fun k => V (r + 1) k != 0) (V r 1).toNat ∧ V' = V)) := by
  refine Ok.intro (by decide +kernel) (Nat.le_of_ble_eq_true rfl) (fun X G hX hG hR hoa hoV => ?_)
  show J X G 0 [vA r, vU, vU] [] V
  refine j_iconst hX dX7_countNotZero_0 ⟨by decide, by decide⟩ ?_
  refine j_is1 hX dX7_countNotZero_1 rfl ?_
  refine j_iconst hX dX7_countNotZero_2 ⟨by decide, by decide⟩ ?_
  refine j_is2 hX dX7_countNotZero_3 rfl ?_
  have lp_4 : ∀ (f9 : Nat) (c i : Int), (0 ≤ i ∧ i ≤ V r 1) → (c = cntI (fun k => V (r + 1) k != 0) i.toNat) → (0 ≤ c ∧ c ≤ i) → ((V r 1 - i).toNat) < f9 → J X G 4 [vA r, vI c, vI i] [] V := by
    intro f9
    induction f9 with
    | zero => intro c i _ _ _ hm; exact absurd hm (Nat.not_lt_zero _)
    | succ f9 ih_4 =>
      intro c i hi hc hb hm
      refine j_il2 hX dX7_countNotZero_4 ?_
      refine j_al0 hX dX7_countNotZero_5 rfl ?_
      refine j_getI hX hG fl_X7_15 (Or.inl rfl) (by first | assumption | decide | exact ob8 (by assumption) | exact ob7 (by assumption) | exact ob2 (by assumption)) dX7_countNotZero_6 ?_
      refine j_icmp_ge (tgt := 29) hX dX7_countNotZero_9 (by decide) (fun h_9 => ?_) (fun h_9 => ?_)
      · skip
        refine j_il1 hX dX7_countNotZero_29 ?_
        exact j_retI hR dX7_countNotZero_30 ⟨by rw [hc, show i = V r 1 by omega], rfl⟩
      · skip
        refine j_al0 hX dX7_countNotZero_12 rfl ?_
        refine j_il2 hX dX7_countNotZero_13 ?_
        refine j_pVI1 (ci := 7) hX hG lk_X7_35 (ok_X7_stateOf (by first | assumption | omega | decide) (by first | assumption | omega | decide)) (by first | assumption | decide | exact ob8 (by assumption) | exact ob7 (by assumption) | exact ob2 (by assumption)) rfl (Nat.le_of_ble_eq_true rfl) (Nat.le_of_ble_eq_true rfl) (Nat.le_of_ble_eq_true rfl) rfl dX7_countNotZero_14 ?_
        refine j_if_eq (tgt := 23) hX dX7_countNotZero_17 (by decide) (fun h_17 => ?_) (fun h_17 => ?_)
        · skip
          refine j_inc2 hX dX7_countNotZero_23 rfl (by omega) ?_
          refine j_goto (tgt := 4) hX dX7_countNotZero_26 (by decide) ?_
          exact ih_4 _ _ (by omega) (by rw [cntI_S hi.1, hc]; first | rw [if_neg (by simpa using h_17)]; omega | rw [if_pos (by simpa using h_17)]) (by omega) (by omega)
        · skip
          refine j_inc1 hX dX7_countNotZero_20 rfl (by omega) ?_
          refine j_inc2 hX dX7_countNotZero_23 rfl (by omega) ?_
          refine j_goto (tgt := 4) hX dX7_countNotZero_26 (by decide) ?_
          exact ih_4 _ _ (by omega) (by rw [cntI_S hi.1, hc]; first | rw [if_neg (by simpa using h_17)]; omega | rw [if_pos (by simpa using h_17)]) (by omega) (by omega)
  exact lp_4 _ _ _ (by omega) rfl ⟨by decide, by decide⟩ (Nat.lt_succ_self _)
set_option maxHeartbeats 4000000 in
theorem ok_X7_productOfAll {V : VV} {r p : Int} {q : Nat} (hr : rng r) (hp : grp p) (hg : GP V p q) (hn : 0 ≤ V r 1 ∧ V r 1 ≤ 16) (hR9 : ∀ k : Int, 0 ≤ k → k < V r 1 → 0 ≤ V (r + 1) k ∧ V (r + 1) k < gO q) : Ok NC yX7_productOfAll cX7_productOfAll 4 (some .int) 2 43 [vA r, vA p] V (pI (fun x9 V' => x9 = prodF q (V (r + 1)) (V r 1).toNat ∧ V' = V)) := by
  refine Ok.intro (by decide +kernel) (Nat.le_of_ble_eq_true rfl) (fun X G hX hG hR hoa hoV => ?_)
  show J X G 0 [vA r, vA p, vU, vU] [] V
  have hq9 := hg.1
  have hq6 := gO_le hq9
  refine j_iconst hX dX7_productOfAll_0 ⟨by decide, by decide⟩ ?_
  refine j_is2 hX dX7_productOfAll_1 rfl ?_
  refine j_iconst hX dX7_productOfAll_2 ⟨by decide, by decide⟩ ?_
  refine j_is3 hX dX7_productOfAll_3 rfl ?_
  have lp_4 : ∀ (f9 : Nat) (c i : Int), (0 ≤ i ∧ i ≤ V r 1) → (c = prodF q (V (r + 1)) i.toNat) → ((V r 1 - i).toNat) < f9 → J X G 4 [vA r, vA p, vI c, vI i] [] V := by
    intro f9
    induction f9 with
    | zero => intro c i _ _ hm; exact absurd hm (Nat.not_lt_zero _)
    | succ f9 ih_4 =>
      intro c i hi hc hm
      refine j_il3 hX dX7_productOfAll_4 ?_
      refine j_al0 hX dX7_productOfAll_5 rfl ?_
      refine j_getI hX hG fl_X7_15 (Or.inl rfl) (by first | assumption | decide | exact ob8 (by assumption) | exact ob7 (by assumption) | exact ob2 (by assumption)) dX7_productOfAll_6 ?_
      refine j_icmp_ge (tgt := 29) hX dX7_productOfAll_9 (by decide) (fun h_9 => ?_) (fun h_9 => ?_)
      · skip
        refine j_il2 hX dX7_productOfAll_29 ?_
        exact j_retI hR dX7_productOfAll_30 ⟨by rw [hc, show i = V r 1 by omega], rfl⟩
      · skip
        refine j_al1 hX dX7_productOfAll_12 rfl ?_
        refine j_il2 hX dX7_productOfAll_13 ?_
        refine j_al0 hX dX7_productOfAll_14 rfl ?_
        refine j_il3 hX dX7_productOfAll_15 ?_
        refine j_pVI1 (ci := 7) hX hG lk_X7_35 (ok_X7_stateOf (by first | assumption | omega | decide) (by first | assumption | omega | decide)) (by first | assumption | decide | exact ob8 (by assumption) | exact ob7 (by assumption) | exact ob2 (by assumption)) rfl (Nat.le_of_ble_eq_true rfl) (Nat.le_of_ble_eq_true rfl) (Nat.le_of_ble_eq_true rfl) rfl dX7_productOfAll_16 ?_
        refine j_pVI2 (ci := 2) hX hG lk_X7_60 (ok_X2_times (by first | assumption | omega | decide) (by first | assumption | omega | decide) (by rw [hc]; exact prodF_b hq9 _ (fun k a b => hR9 k a (by omega))) (hR9 i hi.1 (by omega))) (by first | assumption | decide | exact ob8 (by assumption) | exact ob7 (by assumption) | exact ob2 (by assumption)) rfl (Nat.le_of_ble_eq_true rfl) (Nat.le_of_ble_eq_true rfl) (Nat.le_of_ble_eq_true rfl) rfl dX7_productOfAll_19 ?_
        refine j_is2 hX dX7_productOfAll_22 rfl ?_
        refine j_inc3 hX dX7_productOfAll_23 rfl (by omega) ?_
        refine j_goto (tgt := 4) hX dX7_productOfAll_26 (by decide) ?_
        exact ih_4 _ _ (by omega) (by rw [prodF_S hi.1, hc]) (by omega)
  exact lp_4 _ _ _ (by omega) rfl (Nat.lt_succ_self _)
set_option maxHeartbeats 4000000 in
theorem ok_X7_code {V : VV} {r : Int} (hr : rng r) (hn : 0 ≤ V r 1 ∧ V r 1 ≤ 16) (hR9 : ∀ k : Int, 0 ≤ k → k < V r 1 → 0 ≤ V (r + 1) k ∧ V (r + 1) k < 6) : Ok NC yX7_code cX7_code 4 (some .long) 2 42 [vA r] V (pL (fun x9 V' => x9 = codeF 6 (V (r + 1)) (V r 1).toNat ∧ V' = V)) := by
  refine Ok.intro (by decide +kernel) (Nat.le_of_ble_eq_true rfl) (fun X G hX hG hR hoa hoV => ?_)
  show J X G 0 [vA r, vU, vU, vU] [] V
  refine j_lconst (x := 0) hX dX7_code_0 rfl ⟨by decide, by decide⟩ ?_
  refine j_ls1 hX dX7_code_1 rfl ?_
  refine j_iconst hX dX7_code_2 ⟨by decide, by decide⟩ ?_
  refine j_is3 hX dX7_code_3 rfl ?_
  have lp_4 : ∀ (f9 : Nat) (c i : Int), (0 ≤ i ∧ i ≤ V r 1) → (c = codeF 6 (V (r + 1)) i.toNat) → ((V r 1 - i).toNat) < f9 → J X G 4 [vA r, vL c, vU, vI i] [] V := by
    intro f9
    induction f9 with
    | zero => intro c i _ _ hm; exact absurd hm (Nat.not_lt_zero _)
    | succ f9 ih_4 =>
      intro c i hi hc hm
      refine j_il3 hX dX7_code_4 ?_
      refine j_al0 hX dX7_code_5 rfl ?_
      refine j_getI hX hG fl_X7_15 (Or.inl rfl) (by first | assumption | decide | exact ob8 (by assumption) | exact ob7 (by assumption) | exact ob2 (by assumption)) dX7_code_6 ?_
      refine j_icmp_ge (tgt := 31) hX dX7_code_9 (by decide) (fun h_9 => ?_) (fun h_9 => ?_)
      · skip
        refine j_ll1 hX dX7_code_31 ?_
        exact j_retL hR dX7_code_32 ⟨by rw [hc, show i = V r 1 by omega], rfl⟩
      · skip
        have hb9 := codeF_b (b := 6) (R := V (r + 1)) (by decide) i.toNat (fun k a b => hR9 k a (by omega))
        have hp9 := pow6 (n := i.toNat) (by omega)
        have hs9 := hR9 i hi.1 (by omega)
        refine j_ll1 hX dX7_code_12 ?_
        refine j_ldc2 (x := (6)) hX dX7_code_13 lc_X7_65 ⟨by decide, by decide⟩ ?_
        refine j_lmul hX dX7_code_16 (by omega) ?_
        refine j_al0 hX dX7_code_17 rfl ?_
        refine j_il3 hX dX7_code_18 ?_
        refine j_pVI1 (ci := 7) hX hG lk_X7_35 (ok_X7_stateOf (by first | assumption | omega | decide) (by first | assumption | omega | decide)) (by first | assumption | decide | exact ob8 (by assumption) | exact ob7 (by assumption) | exact ob2 (by assumption)) rfl (Nat.le_of_ble_eq_true rfl) (Nat.le_of_ble_eq_true rfl) (Nat.le_of_ble_eq_true rfl) rfl dX7_code_19 ?_
        refine j_i2l hX dX7_code_22 ?_
        refine j_ladd hX dX7_code_23 (by omega) ?_
        refine j_ls1 hX dX7_code_24 rfl ?_
        refine j_inc3 hX dX7_code_25 rfl (by omega) ?_
        refine j_goto (tgt := 4) hX dX7_code_28 (by decide) ?_
        exact ih_4 _ _ (by omega) (by rw [codeF_S hi.1, hc]) (by omega)
  exact lp_4 _ _ _ (by omega) rfl (Nat.lt_succ_self _)
set_option maxHeartbeats 4000000 in
theorem ok_X8_gives {V : VV} {r e : Int} (hr : rul r) (he : 0 ≤ e ∧ e < 216) : Ok NC yX8_gives cX8_gives 2 (some .int) 1 21 [vA r, vI e] V (pI (fun x9 V' => x9 = V (r + 1) e ∧ V' = V)) := by
  refine Ok.intro (by decide +kernel) (Nat.le_of_ble_eq_true rfl) (fun X G hX hG hR hoa hoV => ?_)
  show J X G 0 [vA r, vI e] [] V
  refine j_al0 hX dX8_gives_0 rfl ?_
  refine j_getR (q := r + 1) hX hG fl_X8_9 rfl (by first | rfl | exact rf8_0 (by assumption)) (by first | assumption | decide | exact ob8 (by assumption) | exact ob7 (by assumption) | exact ob2 (by assumption)) dX8_gives_1 ?_
  refine j_il1 hX dX8_gives_4 ?_
  refine j_pSI2 hX hG lk_X8_71 (ok_X11_at_in (by first | assumption | decide | exact ar8a (by assumption) | exact ar8b (by assumption) | exact ar8c (by assumption) | exact ar7 (by assumption) | exact ar2 (by assumption)) (by first | assumption | decide) (by first | assumption | omega | decide)) (Nat.le_of_ble_eq_true rfl) (Nat.le_of_ble_eq_true rfl) (Nat.le_of_ble_eq_true rfl) rfl dX8_gives_5 ?_
  exact j_retI hR dX8_gives_8 ⟨by first | rfl | omega | (exfalso; omega), rfl⟩
set_option maxHeartbeats 4000000 in
theorem ok_X8_give {V : VV} {r e s : Int} (hr : rul r) (he : 0 ≤ e ∧ e < 216) (hv : 0 ≤ V r 7 ∧ V r 7 ≤ 1000000) : Ok NC yX8_give cX8_give 3 none 1 22 [vA r, vI e, vI s] V (pV (fun V' => V' = up (up V (r + 1) e s) r 7 (V r 7 + 1))) := by
  refine Ok.intro (by decide +kernel) (Nat.le_of_ble_eq_true rfl) (fun X G hX hG hR hoa hoV => ?_)
  show J X G 0 [vA r, vI e, vI s] [] V
  refine j_al0 hX dX8_give_0 rfl ?_
  refine j_getR (q := r + 1) hX hG fl_X8_9 rfl (by first | rfl | exact rf8_0 (by assumption)) (by first | assumption | decide | exact ob8 (by assumption) | exact ob7 (by assumption) | exact ob2 (by assumption)) dX8_give_1 ?_
  refine j_il1 hX dX8_give_4 ?_
  refine j_il2 hX dX8_give_5 ?_
  refine j_cSV3 hX hG lk_X8_56 (ok_X11_put_in (by first | assumption | decide | exact ar8a (by assumption) | exact ar8b (by assumption) | exact ar8c (by assumption) | exact ar7 (by assumption) | exact ar2 (by assumption)) (by first | assumption | decide) (by first | assumption | omega | decide)) (Nat.le_of_ble_eq_true rfl) (Nat.le_of_ble_eq_true rfl) (Nat.le_of_ble_eq_true rfl) rfl dX8_give_6 (fun V_6 h_6 => ?_)
  subst h_6
  refine j_al0 hX dX8_give_9 rfl ?_
  refine j_dup hX dX8_give_10 rfl ?_
  refine j_getI hX hG fl_X8_45 (Or.inl rfl) (by first | assumption | decide | exact ob8 (by assumption) | exact ob7 (by assumption) | exact ob2 (by assumption)) dX8_give_11 ?_
  refine j_iconst hX dX8_give_14 ⟨by decide, by decide⟩ ?_
  refine j_iadd hX dX8_give_15 (by rw [up_n _ (by omega)]; omega) ?_
  refine j_putI hX hG fp_X8_45 rfl (by first | assumption | decide | exact ob8 (by assumption) | exact ob7 (by assumption) | exact ob2 (by assumption)) dX8_give_16 ?_
  exact j_ret hR dX8_give_19 (by congr 1; rw [up_n _ (by omega)])
set_option maxHeartbeats 4000000 in
theorem ok_X8_hasState {V : VV} {r x : Int} (hr : rul r) : Ok NC yX8_hasState cX8_hasState 2 (some .boolean) 0 0 [vA r, vI x] V (pI (fun x9 V' => x9 = (if 0 ≤ x ∧ x < V r 3 then 1 else 0) ∧ V' = V)) := by
  refine Ok.intro (by decide +kernel) (Nat.le_of_ble_eq_true rfl) (fun X G hX hG hR hoa hoV => ?_)
  show J X G 0 [vA r, vI x] [] V
  refine j_il1 hX dX8_hasState_0 ?_
  refine j_if_lt (tgt := 16) hX dX8_hasState_1 (by decide) (fun h_1 => ?_) (fun h_1 => ?_)
  · skip
    refine j_iconst hX dX8_hasState_16 ⟨by decide, by decide⟩ ?_
    exact j_retZ hR dX8_hasState_17 (by omega) ⟨by first | rw [if_pos (by omega)] | rw [if_neg (by omega)], rfl⟩
  · skip
    refine j_il1 hX dX8_hasState_4 ?_
    refine j_al0 hX dX8_hasState_5 rfl ?_
    refine j_getI hX hG fl_X8_22 (Or.inl rfl) (by first | assumption | decide | exact ob8 (by assumption) | exact ob7 (by assumption) | exact ob2 (by assumption)) dX8_hasState_6 ?_
    refine j_icmp_ge (tgt := 16) hX dX8_hasState_9 (by decide) (fun h_9 => ?_) (fun h_9 => ?_)
    · skip
      refine j_iconst hX dX8_hasState_16 ⟨by decide, by decide⟩ ?_
      exact j_retZ hR dX8_hasState_17 (by omega) ⟨by first | rw [if_pos (by omega)] | rw [if_neg (by omega)], rfl⟩
    · skip
      refine j_iconst hX dX8_hasState_12 ⟨by decide, by decide⟩ ?_
      refine j_goto (tgt := 17) hX dX8_hasState_13 (by decide) ?_
      exact j_retZ hR dX8_hasState_17 (by omega) ⟨by first | rw [if_pos (by omega)] | rw [if_neg (by omega)], rfl⟩
set_option maxHeartbeats 4000000 in
theorem ok_X8_hasWord {V : VV} {r a b c : Int} (hr : rul r) : Ok NC yX8_hasWord cX8_hasWord 4 (some .boolean) 1 21 [vA r, vI a, vI b, vI c] V (pI (fun x9 V' => x9 = (if (0 ≤ a ∧ a < V r 3) ∧ (0 ≤ b ∧ b < V r 3) ∧ (V r 4 = 2 ∨ 0 ≤ c ∧ c < V r 3) then 1 else 0) ∧ V' = V)) := by
  refine Ok.intro (by decide +kernel) (Nat.le_of_ble_eq_true rfl) (fun X G hX hG hR hoa hoV => ?_)
  show J X G 0 [vA r, vI a, vI b, vI c] [] V
  refine j_al0 hX dX8_hasWord_0 rfl ?_
  refine j_il1 hX dX8_hasWord_1 ?_
  refine j_pVI1 (ci := 8) hX hG lk_X8_75 (ok_X8_hasState (by first | assumption | omega | decide)) (by first | assumption | decide | exact ob8 (by assumption) | exact ob7 (by assumption) | exact ob2 (by assumption)) rfl (Nat.le_of_ble_eq_true rfl) (Nat.le_of_ble_eq_true rfl) (Nat.le_of_ble_eq_true rfl) rfl dX8_hasWord_2 ?_
  refine j_ifz_eq (tgt := 36) hX dX8_hasWord_5 (by decide) (fun h_5 => ?_) (fun h_5 => ?_)
  · skip
    refine j_iconst hX dX8_hasWord_36 ⟨by decide, by decide⟩ ?_
    exact j_retZ hR dX8_hasWord_37 (by omega) ⟨by first | rw [if_pos (by omega)] | rw [if_neg (by omega)], rfl⟩
  · skip
    refine j_al0 hX dX8_hasWord_8 rfl ?_
    refine j_il2 hX dX8_hasWord_9 ?_
    refine j_pVI1 (ci := 8) hX hG lk_X8_75 (ok_X8_hasState (by first | assumption | omega | decide)) (by first | assumption | decide | exact ob8 (by assumption) | exact ob7 (by assumption) | exact ob2 (by assumption)) rfl (Nat.le_of_ble_eq_true rfl) (Nat.le_of_ble_eq_true rfl) (Nat.le_of_ble_eq_true rfl) rfl dX8_hasWord_10 ?_
    refine j_ifz_eq (tgt := 36) hX dX8_hasWord_13 (by decide) (fun h_13 => ?_) (fun h_13 => ?_)
    · skip
      refine j_iconst hX dX8_hasWord_36 ⟨by decide, by decide⟩ ?_
      exact j_retZ hR dX8_hasWord_37 (by omega) ⟨by first | rw [if_pos (by omega)] | rw [if_neg (by omega)], rfl⟩
    · skip
      refine j_al0 hX dX8_hasWord_16 rfl ?_
      refine j_getI hX hG fl_X8_26 (Or.inl rfl) (by first | assumption | decide | exact ob8 (by assumption) | exact ob7 (by assumption) | exact ob2 (by assumption)) dX8_hasWord_17 ?_
      refine j_iconst hX dX8_hasWord_20 ⟨by decide, by decide⟩ ?_
      refine j_icmp_eq (tgt := 32) hX dX8_hasWord_21 (by decide) (fun h_21 => ?_) (fun h_21 => ?_)
      · skip
        refine j_iconst hX dX8_hasWord_32 ⟨by decide, by decide⟩ ?_
        refine j_goto (tgt := 37) hX dX8_hasWord_33 (by decide) ?_
        exact j_retZ hR dX8_hasWord_37 (by omega) ⟨by first | rw [if_pos (by omega)] | rw [if_neg (by omega)], rfl⟩
      · skip
        refine j_al0 hX dX8_hasWord_24 rfl ?_
        refine j_il3 hX dX8_hasWord_25 ?_
        refine j_pVI1 (ci := 8) hX hG lk_X8_75 (ok_X8_hasState (by first | assumption | omega | decide)) (by first | assumption | decide | exact ob8 (by assumption) | exact ob7 (by assumption) | exact ob2 (by assumption)) rfl (Nat.le_of_ble_eq_true rfl) (Nat.le_of_ble_eq_true rfl) (Nat.le_of_ble_eq_true rfl) rfl dX8_hasWord_26 ?_
        refine j_ifz_eq (tgt := 36) hX dX8_hasWord_29 (by decide) (fun h_29 => ?_) (fun h_29 => ?_)
        · skip
          refine j_iconst hX dX8_hasWord_36 ⟨by decide, by decide⟩ ?_
          exact j_retZ hR dX8_hasWord_37 (by omega) ⟨by first | rw [if_pos (by omega)] | rw [if_neg (by omega)], rfl⟩
        · skip
          refine j_iconst hX dX8_hasWord_32 ⟨by decide, by decide⟩ ?_
          refine j_goto (tgt := 37) hX dX8_hasWord_33 (by decide) ?_
          exact j_retZ hR dX8_hasWord_37 (by omega) ⟨by first | rw [if_pos (by omega)] | rw [if_neg (by omega)], rfl⟩
set_option maxHeartbeats 4000000 in
theorem ok_X8_wordOf {V : VV} {r a b c : Int} (hr : rul r) (ho9 : RO V r) (ha : 0 ≤ a ∧ a < V r 3) (hb : 0 ≤ b ∧ b < V r 3) (hc : V r 4 = 2 ∨ 0 ≤ c ∧ c < V r 3) : Ok NC yX8_wordOf cX8_wordOf 5 (some .int) 0 0 [vA r, vI a, vI b, vI c] V (pI (fun x9 V' => x9 = (if V r 4 = 2 then a * V r 3 + b else (a * V r 3 + b) * V r 3 + c) ∧ V' = V)) := by
  refine Ok.intro (by decide +kernel) (Nat.le_of_ble_eq_true rfl) (fun X G hX hG hR hoa hoV => ?_)
  show J X G 0 [vA r, vI a, vI b, vI c, vU] [] V
  have hb9 := ho9.b
  have w1 := wd_b (N := V r 3) (by omega) ha hb
  have w2 : 0 ≤ a * V r 3 := Int.mul_nonneg ha.1 (by omega)
  have w3 : V r 3 * V r 3 ≤ 6 * 6 := Int.mul_le_mul (by omega) (by omega) (by omega) (by omega)
  have w4 : (a * V r 3 + b) * V r 3 ≤ 36 * 6 := Int.mul_le_mul (by omega) (by omega) (by omega) (by omega)
  have w5 : 0 ≤ (a * V r 3 + b) * V r 3 := Int.mul_nonneg (by omega) (by omega)
  refine j_il1 hX dX8_wordOf_0 ?_
  refine j_al0 hX dX8_wordOf_1 rfl ?_
  refine j_getI hX hG fl_X8_22 (Or.inl rfl) (by first | assumption | decide | exact ob8 (by assumption) | exact ob7 (by assumption) | exact ob2 (by assumption)) dX8_wordOf_2 ?_
  refine j_imul hX dX8_wordOf_5 (by omega) ?_
  refine j_il2 hX dX8_wordOf_6 ?_
  refine j_iadd hX dX8_wordOf_7 (by omega) ?_
  refine j_is4 hX dX8_wordOf_8 rfl ?_
  refine j_al0 hX dX8_wordOf_10 rfl ?_
  refine j_getI hX hG fl_X8_26 (Or.inl rfl) (by first | assumption | decide | exact ob8 (by assumption) | exact ob7 (by assumption) | exact ob2 (by assumption)) dX8_wordOf_11 ?_
  refine j_iconst hX dX8_wordOf_14 ⟨by decide, by decide⟩ ?_
  refine j_icmp_ne (tgt := 23) hX dX8_wordOf_15 (by decide) (fun h_15 => ?_) (fun h_15 => ?_)
  · skip
    refine j_il4 hX dX8_wordOf_23 ?_
    refine j_al0 hX dX8_wordOf_25 rfl ?_
    refine j_getI hX hG fl_X8_22 (Or.inl rfl) (by first | assumption | decide | exact ob8 (by assumption) | exact ob7 (by assumption) | exact ob2 (by assumption)) dX8_wordOf_26 ?_
    refine j_imul hX dX8_wordOf_29 (by omega) ?_
    refine j_il3 hX dX8_wordOf_30 ?_
    refine j_iadd hX dX8_wordOf_31 (by omega) ?_
    exact j_retI hR dX8_wordOf_32 ⟨by first | rw [if_pos (by omega)] | rw [if_neg (by omega)], rfl⟩
  · skip
    refine j_il4 hX dX8_wordOf_18 ?_
    refine j_goto (tgt := 32) hX dX8_wordOf_20 (by decide) ?_
    exact j_retI hR dX8_wordOf_32 ⟨by first | rw [if_pos (by omega)] | rw [if_neg (by omega)], rfl⟩
set_option maxHeartbeats 4000000 in
theorem ok_X8_weightOf {V : VV} {r p : Int} (hr : rul r) (ho9 : RO V r) (hp : 0 ≤ p ∧ p < V r 4) : Ok NC yX8_weightOf cX8_weightOf 2 (some .int) 1 23 [vA r, vI p] V (pI (fun x9 V' => x9 = V r 3 ^ (V r 4 - 1 - p).toNat ∧ V' = V)) := by
  refine Ok.intro (by decide +kernel) (Nat.le_of_ble_eq_true rfl) (fun X G hX hG hR hoa hoV => ?_)
  show J X G 0 [vA r, vI p] [] V
  have hb9 := ho9.b
  refine j_al0 hX dX8_weightOf_0 rfl ?_
  refine j_getI hX hG fl_X8_22 (Or.inl rfl) (by first | assumption | decide | exact ob8 (by assumption) | exact ob7 (by assumption) | exact ob2 (by assumption)) dX8_weightOf_1 ?_
  refine j_al0 hX dX8_weightOf_4 rfl ?_
  refine j_getI hX hG fl_X8_26 (Or.inl rfl) (by first | assumption | decide | exact ob8 (by assumption) | exact ob7 (by assumption) | exact ob2 (by assumption)) dX8_weightOf_5 ?_
  refine j_iconst hX dX8_weightOf_8 ⟨by decide, by decide⟩ ?_
  refine j_isub hX dX8_weightOf_9 (by omega) ?_
  refine j_il1 hX dX8_weightOf_10 ?_
  refine j_isub hX dX8_weightOf_11 (by omega) ?_
  refine j_pSI2 hX hG lk_X8_29 (ok_X11_power (by first | assumption | omega | decide) (by first | assumption | omega | decide)) (Nat.le_of_ble_eq_true rfl) (Nat.le_of_ble_eq_true rfl) (Nat.le_of_ble_eq_true rfl) rfl dX8_weightOf_12 ?_
  exact j_retI hR dX8_weightOf_15 ⟨by first | rfl | omega | (exfalso; omega), rfl⟩
set_option maxHeartbeats 4000000 in
theorem ok_X8_stateOf {V : VV} {r e p : Int} (hr : rul r) (ho9 : RO V r) (he : 0 ≤ e) (hp : 0 ≤ p ∧ p < V r 4) : Ok NC yX8_stateOf cX8_stateOf 3 (some .int) 2 44 [vA r, vI e, vI p] V (pI (fun x9 V' => x9 = dg (V r 3) e (V r 4 - 1 - p).toNat ∧ V' = V)) := by
  refine Ok.intro (by decide +kernel) (Nat.le_of_ble_eq_true rfl) (fun X G hX hG hR hoa hoV => ?_)
  show J X G 0 [vA r, vI e, vI p] [] V
  have hb9 := ho9.b
  refine j_il1 hX dX8_stateOf_0 ?_
  refine j_al0 hX dX8_stateOf_1 rfl ?_
  refine j_il2 hX dX8_stateOf_2 ?_
  refine j_pVI1 (ci := 8) hX hG lk_X8_79 (ok_X8_weightOf (by first | assumption | omega | decide) (by first | assumption | omega | decide) (by first | assumption | omega | decide)) (by first | assumption | decide | exact ob8 (by assumption) | exact ob7 (by assumption) | exact ob2 (by assumption)) rfl (Nat.le_of_ble_eq_true rfl) (Nat.le_of_ble_eq_true rfl) (Nat.le_of_ble_eq_true rfl) rfl dX8_stateOf_3 ?_
  refine j_pSI2 hX hG lk_X8_82 (ok_X11_quotient_in (by first | assumption | omega | decide) (pw_pos hb9.1.1 _)) (Nat.le_of_ble_eq_true rfl) (Nat.le_of_ble_eq_true rfl) (Nat.le_of_ble_eq_true rfl) rfl dX8_stateOf_6 ?_
  refine j_al0 hX dX8_stateOf_9 rfl ?_
  refine j_getI hX hG fl_X8_22 (Or.inl rfl) (by first | assumption | decide | exact ob8 (by assumption) | exact ob7 (by assumption) | exact ob2 (by assumption)) dX8_stateOf_10 ?_
  refine j_pSI2 hX hG lk_X8_85 (ok_X11_remainder_in (Int.ediv_nonneg he (Int.le_of_lt (pw_pos hb9.1.1 _))) (by omega)) (Nat.le_of_ble_eq_true rfl) (Nat.le_of_ble_eq_true rfl) (Nat.le_of_ble_eq_true rfl) rfl dX8_stateOf_13 ?_
  exact j_retI hR dX8_stateOf_16 ⟨by first | rfl | omega | (exfalso; omega), rfl⟩
