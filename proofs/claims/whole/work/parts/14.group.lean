set_option maxHeartbeats 4000000 in
theorem ok_X2_has {V : VV} {r x : Int} (hr : grp r) : Ok NC yX2_has cX2_has 2 (some .boolean) 0 0 [vA r, vI x] V (pI (fun x9 V' => x9 = (if 0 ≤ x ∧ x < V r 1 then 1 else 0) ∧ V' = V)) := by
  refine Ok.intro (by decide +kernel) (Nat.le_of_ble_eq_true rfl) (fun X G hX hG hR hoa hoV => ?_)
  show J X G 0 [vA r, vI x] [] V
  refine j_il1 hX dX2_has_0 ?_
  refine j_if_lt (tgt := 16) hX dX2_has_1 (by decide) (fun h_1 => ?_) (fun h_1 => ?_)
  · skip
    refine j_iconst hX dX2_has_16 ⟨by decide, by decide⟩ ?_
    exact j_retZ hR dX2_has_17 (by omega) ⟨by first | rw [if_pos (by omega)] | rw [if_neg (by omega)], rfl⟩
  · skip
    refine j_il1 hX dX2_has_4 ?_
    refine j_al0 hX dX2_has_5 rfl ?_
    refine j_getI hX hG fl_X2_15 (Or.inl rfl) (by first | assumption | decide | exact ob8 (by assumption) | exact ob7 (by assumption) | exact ob2 (by assumption)) dX2_has_6 ?_
    refine j_icmp_ge (tgt := 16) hX dX2_has_9 (by decide) (fun h_9 => ?_) (fun h_9 => ?_)
    · skip
      refine j_iconst hX dX2_has_16 ⟨by decide, by decide⟩ ?_
      exact j_retZ hR dX2_has_17 (by omega) ⟨by first | rw [if_pos (by omega)] | rw [if_neg (by omega)], rfl⟩
    · skip
      refine j_iconst hX dX2_has_12 ⟨by decide, by decide⟩ ?_
      refine j_goto (tgt := 17) hX dX2_has_13 (by decide) ?_
      exact j_retZ hR dX2_has_17 (by omega) ⟨by first | rw [if_pos (by omega)] | rw [if_neg (by omega)], rfl⟩
set_option maxHeartbeats 4000000 in
theorem ok_X2_all {V : VV} {r : Int} {q : Nat} (hr : grp r) (hg : GP V r q) : Ok NC yX2_all cX2_all 1 (some .int) 0 0 [vA r] V (pI (fun x9 V' => x9 = 2 ^ gO q - 1 ∧ V' = V)) := by
  refine Ok.intro (by decide +kernel) (Nat.le_of_ble_eq_true rfl) (fun X G hX hG hR hoa hoV => ?_)
  show J X G 0 [vA r] [] V
  have hq6 := gO_le hg.1
  have hp6 := p2le hq6.2
  have hp0 := p2pos (gO q)
  have e6 : (V r 1).toNat = gO q := by rw [hg.2.1]; rfl
  have h64 : (2 : Int) ^ 6 = 64 := by decide
  refine j_iconst hX dX2_all_0 ⟨by decide, by decide⟩ ?_
  refine j_al0 hX dX2_all_1 rfl ?_
  refine j_getI hX hG fl_X2_15 (Or.inl rfl) (by first | assumption | decide | exact ob8 (by assumption) | exact ob7 (by assumption) | exact ob2 (by assumption)) dX2_all_2 ?_
  refine j_ishl hX dX2_all_5 (by rw [hg.2.1]; omega) (by rw [e6]; omega) ?_
  refine j_iconst hX dX2_all_6 ⟨by decide, by decide⟩ ?_
  refine j_isub hX dX2_all_7 (by rw [e6]; omega) ?_
  exact j_retI hR dX2_all_8 ⟨by rw [e6]; omega, rfl⟩
set_option maxHeartbeats 4000000 in
theorem ok_X2_putProduct {V : VV} {r x y z : Int} (hr : grp r) (hx : 0 ≤ x ∧ x < 6) (hy : 0 ≤ y ∧ y < 6) : Ok NC yX2_putProduct cX2_putProduct 4 none 1 22 [vA r, vI x, vI y, vI z] V (pV (fun V' => V' = up V (r + 1) (x * 6 + y) z)) := by
  refine Ok.intro (by decide +kernel) (Nat.le_of_ble_eq_true rfl) (fun X G hX hG hR hoa hoV => ?_)
  show J X G 0 [vA r, vI x, vI y, vI z] [] V
  refine j_al0 hX dX2_putProduct_0 rfl ?_
  refine j_getR (q := r + 1) hX hG fl_X2_9 rfl (by first | rfl | exact rf2_0 (by assumption)) (by first | assumption | decide | exact ob8 (by assumption) | exact ob7 (by assumption) | exact ob2 (by assumption)) dX2_putProduct_1 ?_
  refine j_il1 hX dX2_putProduct_4 ?_
  refine j_bipush hX dX2_putProduct_5 (by decide) ⟨by decide, by decide⟩ ?_
  refine j_imul hX dX2_putProduct_7 (by omega) ?_
  refine j_il2 hX dX2_putProduct_8 ?_
  refine j_iadd hX dX2_putProduct_9 (by omega) ?_
  refine j_il3 hX dX2_putProduct_10 ?_
  refine j_cSV3 hX hG lk_X2_40 (ok_X11_put_in (by first | assumption | decide | exact ar8a (by assumption) | exact ar8b (by assumption) | exact ar8c (by assumption) | exact ar7 (by assumption) | exact ar2 (by assumption)) (by first | assumption | decide) (by first | assumption | omega | decide)) (Nat.le_of_ble_eq_true rfl) (Nat.le_of_ble_eq_true rfl) (Nat.le_of_ble_eq_true rfl) rfl dX2_putProduct_11 (fun V_11 h_11 => ?_)
  subst h_11
  exact j_ret hR dX2_putProduct_14 rfl
set_option maxHeartbeats 4000000 in
theorem ok_X2_times {V : VV} {r x y : Int} {q : Nat} (hr : grp r) (hg : GP V r q) (hx : 0 ≤ x ∧ x < gO q) (hy : 0 ≤ y ∧ y < gO q) : Ok NC yX2_times cX2_times 3 (some .int) 1 21 [vA r, vI x, vI y] V (pI (fun x9 V' => x9 = gM q x y ∧ V' = V)) := by
  refine Ok.intro (by decide +kernel) (Nat.le_of_ble_eq_true rfl) (fun X G hX hG hR hoa hoV => ?_)
  show J X G 0 [vA r, vI x, vI y] [] V
  have hq6 := gO_le hg.1
  refine j_al0 hX dX2_times_0 rfl ?_
  refine j_getR (q := r + 1) hX hG fl_X2_9 rfl (by first | rfl | exact rf2_0 (by assumption)) (by first | assumption | decide | exact ob8 (by assumption) | exact ob7 (by assumption) | exact ob2 (by assumption)) dX2_times_1 ?_
  refine j_il1 hX dX2_times_4 ?_
  refine j_bipush hX dX2_times_5 (by decide) ⟨by decide, by decide⟩ ?_
  refine j_imul hX dX2_times_7 (by omega) ?_
  refine j_il2 hX dX2_times_8 ?_
  refine j_iadd hX dX2_times_9 (by omega) ?_
  refine j_pSI2 hX hG lk_X2_36 (ok_X11_at_in (by first | assumption | decide | exact ar8a (by assumption) | exact ar8b (by assumption) | exact ar8c (by assumption) | exact ar7 (by assumption) | exact ar2 (by assumption)) (by first | assumption | decide) (by first | assumption | omega | decide)) (Nat.le_of_ble_eq_true rfl) (Nat.le_of_ble_eq_true rfl) (Nat.le_of_ble_eq_true rfl) rfl dX2_times_10 ?_
  exact j_retI hR dX2_times_13 ⟨hg.2.2 x y hx.1 hx.2 hy.1 hy.2, rfl⟩
set_option maxHeartbeats 4000000 in
theorem ok_X2_image {V : VV} {x i : Int} (hx : 0 ≤ x ∧ x < 6) (hi : 0 ≤ i ∧ i < 3) : Ok NC yX2_image cX2_image 2 (some .int) 1 21 [vI x, vI i] V (pI (fun x9 V' => x9 = imgs.getD (3 * x + i).toNat 0 ∧ V' = V)) := by
  refine Ok.intro (by decide +kernel) (Nat.le_of_ble_eq_true rfl) (fun X G hX hG hR hoa hoV => ?_)
  show J X G 0 [vI x, vI i] [] V
  refine j_static_IMAGES hX dX2_image_0 fz_X2_33 ?_
  refine j_iconst hX dX2_image_3 ⟨by decide, by decide⟩ ?_
  refine j_il0 hX dX2_image_4 ?_
  refine j_imul hX dX2_image_5 (by omega) ?_
  refine j_il1 hX dX2_image_6 ?_
  refine j_iadd hX dX2_image_7 (by omega) ?_
  refine j_pSI2 hX hG lk_X2_36 (ok_X11_at_img (by first | assumption | omega | decide)) (Nat.le_of_ble_eq_true rfl) (Nat.le_of_ble_eq_true rfl) (Nat.le_of_ble_eq_true rfl) rfl dX2_image_8 ?_
  exact j_retI hR dX2_image_11 ⟨by first | rfl | omega | (exfalso; omega), rfl⟩
set_option maxHeartbeats 4000000 in
theorem ok_X2_permutation {V : VV} {a b : Int}  : Ok NC yX2_permutation cX2_permutation 3 (some .int) 2 42 [vI a, vI b] V (pI (fun x9 V' => x9 = permI a b ∧ V' = V)) := by
  refine Ok.intro (by decide +kernel) (Nat.le_of_ble_eq_true rfl) (fun X G hX hG hR hoa hoV => ?_)
  show J X G 0 [vI a, vI b, vU] [] V
  refine j_iconst hX dX2_permutation_0 ⟨by decide, by decide⟩ ?_
  refine j_is2 hX dX2_permutation_1 rfl ?_
  have lp_2 : ∀ (f9 : Nat) (z : Int), (0 ≤ z ∧ z ≤ 6) → (∀ j : Nat, (j : Int) < z → ¬ (imgs.getD (3 * (j : Int) + 0).toNat 0 = a ∧ imgs.getD (3 * (j : Int) + 1).toNat 0 = b)) → ((6 - z).toNat) < f9 → J X G 2 [vI a, vI b, vI z] [] V := by
    intro f9
    induction f9 with
    | zero => intro z _ _ hm; exact absurd hm (Nat.not_lt_zero _)
    | succ f9 ih_2 =>
      intro z hz hn hm
      refine j_il2 hX dX2_permutation_2 ?_
      refine j_bipush hX dX2_permutation_3 (by decide) ⟨by decide, by decide⟩ ?_
      refine j_icmp_ge (tgt := 34) hX dX2_permutation_5 (by decide) (fun h_5 => ?_) (fun h_5 => ?_)
      · skip
        refine j_iconst hX dX2_permutation_34 ⟨by decide, by decide⟩ ?_
        exact j_retI hR dX2_permutation_35 ⟨(permI_no (fun j hj => hn j (by omega))).symm, rfl⟩
      · skip
        refine j_il2 hX dX2_permutation_8 ?_
        refine j_iconst hX dX2_permutation_9 ⟨by decide, by decide⟩ ?_
        refine j_pSI2 hX hG lk_X2_27 (ok_X2_image (by first | assumption | omega | decide) (by first | assumption | omega | decide)) (Nat.le_of_ble_eq_true rfl) (Nat.le_of_ble_eq_true rfl) (Nat.le_of_ble_eq_true rfl) rfl dX2_permutation_10 ?_
        refine j_il0 hX dX2_permutation_13 ?_
        refine j_icmp_ne (tgt := 28) hX dX2_permutation_14 (by decide) (fun h_14 => ?_) (fun h_14 => ?_)
        · skip
          refine j_inc2 hX dX2_permutation_28 rfl (by omega) ?_
          refine j_goto (tgt := 2) hX dX2_permutation_31 (by decide) ?_
          exact ih_2 _ (by omega) (lt_step hn hz.1 (by rw [Int.toNat_of_nonneg hz.1]; intro q; first | exact h_14 q.1 | exact h_23 q.2)) (by omega)
        · skip
          refine j_il2 hX dX2_permutation_17 ?_
          refine j_iconst hX dX2_permutation_18 ⟨by decide, by decide⟩ ?_
          refine j_pSI2 hX hG lk_X2_27 (ok_X2_image (by first | assumption | omega | decide) (by first | assumption | omega | decide)) (Nat.le_of_ble_eq_true rfl) (Nat.le_of_ble_eq_true rfl) (Nat.le_of_ble_eq_true rfl) rfl dX2_permutation_19 ?_
          refine j_il1 hX dX2_permutation_22 ?_
          refine j_icmp_ne (tgt := 28) hX dX2_permutation_23 (by decide) (fun h_23 => ?_) (fun h_23 => ?_)
          · skip
            refine j_inc2 hX dX2_permutation_28 rfl (by omega) ?_
            refine j_goto (tgt := 2) hX dX2_permutation_31 (by decide) ?_
            exact ih_2 _ (by omega) (lt_step hn hz.1 (by rw [Int.toNat_of_nonneg hz.1]; intro q; first | exact h_14 q.1 | exact h_23 q.2)) (by omega)
          · skip
            refine j_il2 hX dX2_permutation_26 ?_
            obtain ⟨z, rfl⟩ : ∃ n : Nat, z = (n : Int) := ⟨z.toNat, by omega⟩
            exact j_retI hR dX2_permutation_27 ⟨(permI_of (by omega) ⟨by omega, by omega⟩ (fun j hj => hn j (by omega))).symm, rfl⟩
  exact lp_2 _ _ (by omega) (by omega) (Nat.lt_succ_self _)
set_option maxHeartbeats 4000000 in
theorem ok_X2_becomeCyclic {V : VV} {r n : Int} (hr : grp r) (hn0 : 2 ≤ n ∧ n ≤ 6) : Ok NC yX2_becomeCyclic cX2_becomeCyclic 4 none 2 45 [vA r, vI n] V (pV (fun V' => GP V' r (n.toNat - 2) ∧ sm2 r (r + 1) V V')) := by
  refine Ok.intro (by decide +kernel) (Nat.le_of_ble_eq_true rfl) (fun X G hX hG hR hoa hoV => ?_)
  show J X G 0 [vA r, vI n, vU, vU] [] V
  refine j_al0 hX dX2_becomeCyclic_0 rfl ?_
  refine j_il1 hX dX2_becomeCyclic_1 ?_
  refine j_putI hX hG fp_X2_15 rfl (by first | assumption | decide | exact ob8 (by assumption) | exact ob7 (by assumption) | exact ob2 (by assumption)) dX2_becomeCyclic_2 ?_
  refine j_iconst hX dX2_becomeCyclic_5 ⟨by decide, by decide⟩ ?_
  refine j_is2 hX dX2_becomeCyclic_6 rfl ?_
  have lp_7 : ∀ (f9 : Nat) (x : Int) (W : VV), (0 ≤ x ∧ x ≤ n) → (W r 1 = n) → (sm2 r (r + 1) V W) → (FT W r n (fun a b => (a + b) % n) x 0) → ((n - x).toNat) < f9 → J X G 7 [vA r, vI n, vI x, vU] [] W := by
    intro f9
    induction f9 with
    | zero => intro x W _ _ _ _ hm; exact absurd hm (Nat.not_lt_zero _)
    | succ f9 ih_7 =>
      intro x W hx hn hs hT hm
      refine j_il2 hX dX2_becomeCyclic_7 ?_
      refine j_al0 hX dX2_becomeCyclic_8 rfl ?_
      refine j_getI hX hG fl_X2_15 (Or.inl rfl) (by first | assumption | decide | exact ob8 (by assumption) | exact ob7 (by assumption) | exact ob2 (by assumption)) dX2_becomeCyclic_9 ?_
      refine j_icmp_ge (tgt := 53) hX dX2_becomeCyclic_12 (by decide) (fun h_12 => ?_) (fun h_12 => ?_)
      · skip
        exact j_ret hR dX2_becomeCyclic_53 ⟨GP_cyc hn0 hn (by rw [show x = n by omega] at hT; exact hT), hs⟩
      · skip
        refine j_iconst hX dX2_becomeCyclic_15 ⟨by decide, by decide⟩ ?_
        refine j_is3 hX dX2_becomeCyclic_16 rfl ?_
        have lp_17 : ∀ (f9 : Nat) (y : Int) (W : VV), (0 ≤ y ∧ y ≤ n) → (W r 1 = n) → (sm2 r (r + 1) V W) → (FT W r n (fun a b => (a + b) % n) x y) → ((n - y).toNat) < f9 → J X G 17 [vA r, vI n, vI x, vI y] [] W := by
          intro f9
          induction f9 with
          | zero => intro y W _ _ _ _ hm; exact absurd hm (Nat.not_lt_zero _)
          | succ f9 ih_17 =>
            intro y W hy hn hs hT hm
            refine j_il3 hX dX2_becomeCyclic_17 ?_
            refine j_al0 hX dX2_becomeCyclic_18 rfl ?_
            refine j_getI hX hG fl_X2_15 (Or.inl rfl) (by first | assumption | decide | exact ob8 (by assumption) | exact ob7 (by assumption) | exact ob2 (by assumption)) dX2_becomeCyclic_19 ?_
            refine j_icmp_ge (tgt := 47) hX dX2_becomeCyclic_22 (by decide) (fun h_22 => ?_) (fun h_22 => ?_)
            · skip
              refine j_inc2 hX dX2_becomeCyclic_47 rfl (by omega) ?_
              refine j_goto (tgt := 7) hX dX2_becomeCyclic_50 (by decide) ?_
              refine j_fg3 ?_
              exact ih_7 _ _ (by omega) (by assumption) (by assumption) (FT_R2 (by assumption) (by omega)) (by omega)
            · skip
              refine j_al0 hX dX2_becomeCyclic_25 rfl ?_
              refine j_il2 hX dX2_becomeCyclic_26 ?_
              refine j_il3 hX dX2_becomeCyclic_27 ?_
              refine j_il2 hX dX2_becomeCyclic_28 ?_
              refine j_il3 hX dX2_becomeCyclic_29 ?_
              refine j_iadd hX dX2_becomeCyclic_30 (by omega) ?_
              refine j_al0 hX dX2_becomeCyclic_31 rfl ?_
              refine j_getI hX hG fl_X2_15 (Or.inl rfl) (by first | assumption | decide | exact ob8 (by assumption) | exact ob7 (by assumption) | exact ob2 (by assumption)) dX2_becomeCyclic_32 ?_
              refine j_pSI2 hX hG lk_X2_19 (ok_X11_remainder_in (by omega) (by omega)) (Nat.le_of_ble_eq_true rfl) (Nat.le_of_ble_eq_true rfl) (Nat.le_of_ble_eq_true rfl) rfl dX2_becomeCyclic_35 ?_
              refine j_cVV3 (ci := 2) hX hG lk_X2_23 (ok_X2_putProduct (by first | assumption | omega | decide) (by first | assumption | omega | decide) (by first | assumption | omega | decide)) (by first | assumption | decide | exact ob8 (by assumption) | exact ob7 (by assumption) | exact ob2 (by assumption)) rfl (Nat.le_of_ble_eq_true rfl) (Nat.le_of_ble_eq_true rfl) (Nat.le_of_ble_eq_true rfl) rfl dX2_becomeCyclic_38 (fun V_38 h_38 => ?_)
              subst h_38
              refine j_inc3 hX dX2_becomeCyclic_41 rfl (by omega) ?_
              refine j_goto (tgt := 17) hX dX2_becomeCyclic_44 (by decide) ?_
              exact ih_17 _ _ (by omega) (by rw [up_n _ (by omega)]; assumption) (sm2_u (by assumption) (Or.inr rfl)) (by have h9 := FT_S (x := x) (y := y) hT (by omega) (by omega); simpa [hn] using h9) (by omega)
        exact lp_17 _ _ _ (by omega) (by assumption) (by assumption) (by assumption) (Nat.lt_succ_self _)
  exact lp_7 _ _ _ (by omega) (by rw [up_s]) (sm2_u sm2_0 (Or.inl rfl)) FT_0 (Nat.lt_succ_self _)
set_option maxHeartbeats 4000000 in
theorem ok_X2_becomeKlein {V : VV} {r : Int} (hr : grp r) : Ok NC yX2_becomeKlein cX2_becomeKlein 3 none 2 45 [vA r] V (pV (fun V' => GP V' r 5 ∧ sm2 r (r + 1) V V')) := by
  refine Ok.intro (by decide +kernel) (Nat.le_of_ble_eq_true rfl) (fun X G hX hG hR hoa hoV => ?_)
  show J X G 0 [vA r, vU, vU] [] V
  refine j_al0 hX dX2_becomeKlein_0 rfl ?_
  refine j_iconst hX dX2_becomeKlein_1 ⟨by decide, by decide⟩ ?_
  refine j_putI hX hG fp_X2_15 rfl (by first | assumption | decide | exact ob8 (by assumption) | exact ob7 (by assumption) | exact ob2 (by assumption)) dX2_becomeKlein_2 ?_
  refine j_iconst hX dX2_becomeKlein_5 ⟨by decide, by decide⟩ ?_
  refine j_is1 hX dX2_becomeKlein_6 rfl ?_
  have lp_7 : ∀ (f9 : Nat) (x : Int) (W : VV), (0 ≤ x ∧ x ≤ 4) → (W r 1 = 4) → (sm2 r (r + 1) V W) → (FT W r 4 (fun a b => bxor 32 a b) x 0) → ((4 - x).toNat) < f9 → J X G 7 [vA r, vI x, vU] [] W := by
    intro f9
    induction f9 with
    | zero => intro x W _ _ _ _ hm; exact absurd hm (Nat.not_lt_zero _)
    | succ f9 ih_7 =>
      intro x W hx hn hs hT hm
      refine j_il1 hX dX2_becomeKlein_7 ?_
      refine j_al0 hX dX2_becomeKlein_8 rfl ?_
      refine j_getI hX hG fl_X2_15 (Or.inl rfl) (by first | assumption | decide | exact ob8 (by assumption) | exact ob7 (by assumption) | exact ob2 (by assumption)) dX2_becomeKlein_9 ?_
      refine j_icmp_ge (tgt := 46) hX dX2_becomeKlein_12 (by decide) (fun h_12 => ?_) (fun h_12 => ?_)
      · skip
        exact j_ret hR dX2_becomeKlein_46 ⟨GP_klein hn (by rw [show x = 4 by omega] at hT; exact hT), hs⟩
      · skip
        refine j_iconst hX dX2_becomeKlein_15 ⟨by decide, by decide⟩ ?_
        refine j_is2 hX dX2_becomeKlein_16 rfl ?_
        have lp_17 : ∀ (f9 : Nat) (y : Int) (W : VV), (0 ≤ y ∧ y ≤ 4) → (W r 1 = 4) → (sm2 r (r + 1) V W) → (FT W r 4 (fun a b => bxor 32 a b) x y) → ((4 - y).toNat) < f9 → J X G 17 [vA r, vI x, vI y] [] W := by
          intro f9
          induction f9 with
          | zero => intro y W _ _ _ _ hm; exact absurd hm (Nat.not_lt_zero _)
          | succ f9 ih_17 =>
            intro y W hy hn hs hT hm
            refine j_il2 hX dX2_becomeKlein_17 ?_
            refine j_al0 hX dX2_becomeKlein_18 rfl ?_
            refine j_getI hX hG fl_X2_15 (Or.inl rfl) (by first | assumption | decide | exact ob8 (by assumption) | exact ob7 (by assumption) | exact ob2 (by assumption)) dX2_becomeKlein_19 ?_
            refine j_icmp_ge (tgt := 40) hX dX2_becomeKlein_22 (by decide) (fun h_22 => ?_) (fun h_22 => ?_)
            · skip
              refine j_inc1 hX dX2_becomeKlein_40 rfl (by omega) ?_
              refine j_goto (tgt := 7) hX dX2_becomeKlein_43 (by decide) ?_
              refine j_fg2 ?_
              exact ih_7 _ _ (by omega) (by assumption) (by assumption) (FT_R2 (by assumption) (by omega)) (by omega)
            · skip
              refine j_al0 hX dX2_becomeKlein_25 rfl ?_
              refine j_il1 hX dX2_becomeKlein_26 ?_
              refine j_il2 hX dX2_becomeKlein_27 ?_
              refine j_il1 hX dX2_becomeKlein_28 ?_
              refine j_il2 hX dX2_becomeKlein_29 ?_
              refine j_ixor hX dX2_becomeKlein_30 ?_
              refine j_cVV3 (ci := 2) hX hG lk_X2_23 (ok_X2_putProduct (by first | assumption | omega | decide) (by first | assumption | omega | decide) (by first | assumption | omega | decide)) (by first | assumption | decide | exact ob8 (by assumption) | exact ob7 (by assumption) | exact ob2 (by assumption)) rfl (Nat.le_of_ble_eq_true rfl) (Nat.le_of_ble_eq_true rfl) (Nat.le_of_ble_eq_true rfl) rfl dX2_becomeKlein_31 (fun V_31 h_31 => ?_)
              subst h_31
              refine j_inc2 hX dX2_becomeKlein_34 rfl (by omega) ?_
              refine j_goto (tgt := 17) hX dX2_becomeKlein_37 (by decide) ?_
              exact ih_17 _ _ (by omega) (by rw [up_n _ (by omega)]; assumption) (sm2_u (by assumption) (Or.inr rfl)) (by have h9 := FT_S (x := x) (y := y) hT (by omega) (by omega); exact h9) (by omega)
        exact lp_17 _ _ _ (by omega) (by assumption) (by assumption) (by assumption) (Nat.lt_succ_self _)
  exact lp_7 _ _ _ (by omega) (by rw [up_s]) (sm2_u sm2_0 (Or.inl rfl)) FT_0 (Nat.lt_succ_self _)
set_option maxHeartbeats 4000000 in
theorem ok_X2_becomeSym {V : VV} {r : Int} (hr : grp r) : Ok NC yX2_becomeSym cX2_becomeSym 3 none 3 64 [vA r] V (pV (fun V' => GP V' r 6 ∧ sm2 r (r + 1) V V')) := by
  refine Ok.intro (by decide +kernel) (Nat.le_of_ble_eq_true rfl) (fun X G hX hG hR hoa hoV => ?_)
  show J X G 0 [vA r, vU, vU] [] V
  refine j_al0 hX dX2_becomeSym_0 rfl ?_
  refine j_bipush hX dX2_becomeSym_1 (by decide) ⟨by decide, by decide⟩ ?_
  refine j_putI hX hG fp_X2_15 rfl (by first | assumption | decide | exact ob8 (by assumption) | exact ob7 (by assumption) | exact ob2 (by assumption)) dX2_becomeSym_3 ?_
  refine j_iconst hX dX2_becomeSym_6 ⟨by decide, by decide⟩ ?_
  refine j_is1 hX dX2_becomeSym_7 rfl ?_
  have lp_8 : ∀ (f9 : Nat) (x : Int) (W : VV), (0 ≤ x ∧ x ≤ 6) → (W r 1 = 6) → (sm2 r (r + 1) V W) → (FT W r 6 (fun a b => permI (im3 a (im3 b 0)) (im3 a (im3 b 1))) x 0) → ((6 - x).toNat) < f9 → J X G 8 [vA r, vI x, vU] [] W := by
    intro f9
    induction f9 with
    | zero => intro x W _ _ _ _ hm; exact absurd hm (Nat.not_lt_zero _)
    | succ f9 ih_8 =>
      intro x W hx hn hs hT hm
      refine j_il1 hX dX2_becomeSym_8 ?_
      refine j_al0 hX dX2_becomeSym_9 rfl ?_
      refine j_getI hX hG fl_X2_15 (Or.inl rfl) (by first | assumption | decide | exact ob8 (by assumption) | exact ob7 (by assumption) | exact ob2 (by assumption)) dX2_becomeSym_10 ?_
      refine j_icmp_ge (tgt := 65) hX dX2_becomeSym_13 (by decide) (fun h_13 => ?_) (fun h_13 => ?_)
      · skip
        exact j_ret hR dX2_becomeSym_65 ⟨GP_sym hn (by rw [show x = 6 by omega] at hT; exact hT), hs⟩
      · skip
        refine j_iconst hX dX2_becomeSym_16 ⟨by decide, by decide⟩ ?_
        refine j_is2 hX dX2_becomeSym_17 rfl ?_
        have lp_18 : ∀ (f9 : Nat) (y : Int) (W : VV), (0 ≤ y ∧ y ≤ 6) → (W r 1 = 6) → (sm2 r (r + 1) V W) → (FT W r 6 (fun a b => permI (im3 a (im3 b 0)) (im3 a (im3 b 1))) x y) → ((6 - y).toNat) < f9 → J X G 18 [vA r, vI x, vI y] [] W := by
          intro f9
          induction f9 with
          | zero => intro y W _ _ _ _ hm; exact absurd hm (Nat.not_lt_zero _)
          | succ f9 ih_18 =>
            intro y W hy hn hs hT hm
            refine j_il2 hX dX2_becomeSym_18 ?_
            refine j_al0 hX dX2_becomeSym_19 rfl ?_
            refine j_getI hX hG fl_X2_15 (Or.inl rfl) (by first | assumption | decide | exact ob8 (by assumption) | exact ob7 (by assumption) | exact ob2 (by assumption)) dX2_becomeSym_20 ?_
            refine j_icmp_ge (tgt := 59) hX dX2_becomeSym_23 (by decide) (fun h_23 => ?_) (fun h_23 => ?_)
            · skip
              refine j_inc1 hX dX2_becomeSym_59 rfl (by omega) ?_
              refine j_goto (tgt := 8) hX dX2_becomeSym_62 (by decide) ?_
              refine j_fg2 ?_
              exact ih_8 _ _ (by omega) (by assumption) (by assumption) (FT_R2 (by assumption) (by omega)) (by omega)
            · skip
              refine j_al0 hX dX2_becomeSym_26 rfl ?_
              refine j_il1 hX dX2_becomeSym_27 ?_
              refine j_il2 hX dX2_becomeSym_28 ?_
              refine j_il1 hX dX2_becomeSym_29 ?_
              refine j_il2 hX dX2_becomeSym_30 ?_
              refine j_iconst hX dX2_becomeSym_31 ⟨by decide, by decide⟩ ?_
              refine j_pSI2 hX hG lk_X2_27 (ok_X2_image (by omega) (by decide)) (Nat.le_of_ble_eq_true rfl) (Nat.le_of_ble_eq_true rfl) (Nat.le_of_ble_eq_true rfl) rfl dX2_becomeSym_32 ?_
              refine j_pSI2 hX hG lk_X2_27 (ok_X2_image (by omega) (im3_lt (by omega) (by decide))) (Nat.le_of_ble_eq_true rfl) (Nat.le_of_ble_eq_true rfl) (Nat.le_of_ble_eq_true rfl) rfl dX2_becomeSym_35 ?_
              refine j_il1 hX dX2_becomeSym_38 ?_
              refine j_il2 hX dX2_becomeSym_39 ?_
              refine j_iconst hX dX2_becomeSym_40 ⟨by decide, by decide⟩ ?_
              refine j_pSI2 hX hG lk_X2_27 (ok_X2_image (by omega) (by decide)) (Nat.le_of_ble_eq_true rfl) (Nat.le_of_ble_eq_true rfl) (Nat.le_of_ble_eq_true rfl) rfl dX2_becomeSym_41 ?_
              refine j_pSI2 hX hG lk_X2_27 (ok_X2_image (by omega) (im3_lt (by omega) (by decide))) (Nat.le_of_ble_eq_true rfl) (Nat.le_of_ble_eq_true rfl) (Nat.le_of_ble_eq_true rfl) rfl dX2_becomeSym_44 ?_
              refine j_pSI2 hX hG lk_X2_30 (ok_X2_permutation ) (Nat.le_of_ble_eq_true rfl) (Nat.le_of_ble_eq_true rfl) (Nat.le_of_ble_eq_true rfl) rfl dX2_becomeSym_47 ?_
              refine j_cVV3 (ci := 2) hX hG lk_X2_23 (ok_X2_putProduct (by first | assumption | omega | decide) (by first | assumption | omega | decide) (by first | assumption | omega | decide)) (by first | assumption | decide | exact ob8 (by assumption) | exact ob7 (by assumption) | exact ob2 (by assumption)) rfl (Nat.le_of_ble_eq_true rfl) (Nat.le_of_ble_eq_true rfl) (Nat.le_of_ble_eq_true rfl) rfl dX2_becomeSym_50 (fun V_50 h_50 => ?_)
              subst h_50
              refine j_inc2 hX dX2_becomeSym_53 rfl (by omega) ?_
              refine j_goto (tgt := 18) hX dX2_becomeSym_56 (by decide) ?_
              exact ih_18 _ _ (by omega) (by rw [up_n _ (by omega)]; assumption) (sm2_u (by assumption) (Or.inr rfl)) (by have h9 := FT_S (x := x) (y := y) hT (by omega) (by omega); exact h9) (by omega)
        exact lp_18 _ _ _ (by omega) (by assumption) (by assumption) (by assumption) (Nat.lt_succ_self _)
  exact lp_8 _ _ _ (by omega) (by rw [up_s]) (sm2_u sm2_0 (Or.inl rfl)) FT_0 (Nat.lt_succ_self _)
set_option maxHeartbeats 4000000 in
theorem ok_X2_copy {V : VV} {q : Nat} (hg : GP V 4 q) : Ok NC yX2_copy cX2_copy 3 none 1 22 [vA 13, vA 4] V (pV (fun V' => GP V' 13 q ∧ sm2 13 14 V V')) := by
  refine Ok.intro (by decide +kernel) (Nat.le_of_ble_eq_true rfl) (fun X G hX hG hR hoa hoV => ?_)
  show J X G 0 [vA 13, vA 4, vU] [] V
  refine j_al0 hX dX2_copy_0 rfl ?_
  refine j_al1 hX dX2_copy_1 rfl ?_
  refine j_getI hX hG fl_X2_15 (Or.inl rfl) (by decide) dX2_copy_2 ?_
  refine j_putI hX hG fp_X2_15 rfl (by decide) dX2_copy_5 ?_
  refine j_iconst hX dX2_copy_8 ⟨by decide, by decide⟩ ?_
  refine j_is2 hX dX2_copy_9 rfl ?_
  have lp_10 : ∀ (f9 : Nat) (i : Int) (W : VV), (0 ≤ i ∧ i ≤ 36) → (sm2 13 14 V W) → (W 13 1 = V 4 1) → (∀ b, 0 ≤ b → b < i → W 14 b = V 5 b) → ((36 - i).toNat) < f9 → J X G 10 [vA 13, vA 4, vI i] [] W := by
    intro f9
    induction f9 with
    | zero => intro i W _ _ _ _ hm; exact absurd hm (Nat.not_lt_zero _)
    | succ f9 ih_10 =>
      intro i W hi hs h1 hT hm
      refine j_il2 hX dX2_copy_10 ?_
      refine j_al0 hX dX2_copy_11 rfl ?_
      refine j_getR (q := 14) hX hG fl_X2_9 rfl rfl (by decide) dX2_copy_12 ?_
      refine j_alen (n := 36) (t := 1) hX hG (by decide) (by decide) (by omega) dX2_copy_15 ?_
      refine j_icmp_ge (tgt := 41) hX dX2_copy_16 (by decide) (fun h_16 => ?_) (fun h_16 => ?_)
      · skip
        exact j_ret hR dX2_copy_41 ⟨GP_copy hg h1 (fun b h8 h9 => hT b h8 (by omega)), hs⟩
      · skip
        refine j_al0 hX dX2_copy_19 rfl ?_
        refine j_getR (q := 14) hX hG fl_X2_9 rfl rfl (by decide) dX2_copy_20 ?_
        refine j_il2 hX dX2_copy_23 ?_
        refine j_al1 hX dX2_copy_24 rfl ?_
        refine j_getR (q := 5) hX hG fl_X2_9 rfl rfl (by decide) dX2_copy_25 ?_
        refine j_il2 hX dX2_copy_28 ?_
        refine j_pSI2 hX hG lk_X2_36 (ok_X11_at_in (n := 36) (by decide) (by first | assumption | decide) (by first | assumption | omega | decide)) (Nat.le_of_ble_eq_true rfl) (Nat.le_of_ble_eq_true rfl) (Nat.le_of_ble_eq_true rfl) rfl dX2_copy_29 ?_
        refine j_cSV3 hX hG lk_X2_40 (ok_X11_put_in (n := 36) (by decide) (by first | assumption | decide) (by first | assumption | omega | decide)) (Nat.le_of_ble_eq_true rfl) (Nat.le_of_ble_eq_true rfl) (Nat.le_of_ble_eq_true rfl) rfl dX2_copy_32 (fun V_32 h_32 => ?_)
        subst h_32
        refine j_inc2 hX dX2_copy_35 rfl (by omega) ?_
        refine j_goto (tgt := 10) hX dX2_copy_38 (by decide) ?_
        exact ih_10 _ _ (by omega) (sm2_u hs (Or.inr rfl)) (by rw [up_n _ (by omega)]; exact h1) (by intro b h8 h9; by_cases e : b = i; rw [e, up_s]; exact hs 5 i (by omega) (by omega); rw [up_n _ (by omega)]; exact hT b h8 (by omega)) (by omega)
  exact lp_10 _ _ _ (by omega) (sm2_u sm2_0 (Or.inl rfl)) (by rw [up_s]) (by omega) (Nat.lt_succ_self _)
