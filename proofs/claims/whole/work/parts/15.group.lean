set_option maxHeartbeats 4000000 in
theorem ok_X2_minus {V : VV} {r x : Int} {q : Nat} (hr : grp r) (hg : GP V r q) (hx : 0 ≤ x ∧ x < gO q) : Ok NC yX2_minus cX2_minus 3 (some .int) 2 43 [vA r, vI x] V (pI (fun x9 V' => x9 = gV q x ∧ V' = V)) := by
  refine Ok.intro (by decide +kernel) (Nat.le_of_ble_eq_true rfl) (fun X G hX hG hR hoa hoV => ?_)
  show J X G 0 [vA r, vI x, vU] [] V
  have hq6 := gO_le hg.1
  have hq9 := hg.1
  have e9 : V r 1 = gO q := hg.2.1
  refine j_iconst hX dX2_minus_0 ⟨by decide, by decide⟩ ?_
  refine j_is2 hX dX2_minus_1 rfl ?_
  have lp_2 : ∀ (f9 : Nat) (y : Int), (0 ≤ y ∧ y ≤ gO q) → (y ≤ gV q x) → ((gO q - y).toNat) < f9 → J X G 2 [vA r, vI x, vI y] [] V := by
    intro f9
    induction f9 with
    | zero => intro y _ _ hm; exact absurd hm (Nat.not_lt_zero _)
    | succ f9 ih_2 =>
      intro y hy hn hm
      refine j_il2 hX dX2_minus_2 ?_
      refine j_al0 hX dX2_minus_3 rfl ?_
      refine j_getI hX hG fl_X2_15 (Or.inl rfl) (by first | assumption | decide | exact ob8 (by assumption) | exact ob7 (by assumption) | exact ob2 (by assumption)) dX2_minus_4 ?_
      refine j_icmp_ge (tgt := 27) hX dX2_minus_7 (by decide) (fun h_7 => ?_) (fun h_7 => ?_)
      · skip
        refine j_iconst hX dX2_minus_27 ⟨by decide, by decide⟩ ?_
        exact j_retI hR dX2_minus_28 ⟨by have := gV_lt hq9 hx; omega, rfl⟩
      · skip
        refine j_al0 hX dX2_minus_10 rfl ?_
        refine j_il1 hX dX2_minus_11 ?_
        refine j_il2 hX dX2_minus_12 ?_
        refine j_pVI2 (ci := 2) hX hG lk_X2_44 (ok_X2_times (by first | assumption | omega | decide) (by first | assumption | omega | decide) (by first | assumption | omega | decide) (by first | assumption | omega | decide)) (by first | assumption | decide | exact ob8 (by assumption) | exact ob7 (by assumption) | exact ob2 (by assumption)) rfl (Nat.le_of_ble_eq_true rfl) (Nat.le_of_ble_eq_true rfl) (Nat.le_of_ble_eq_true rfl) rfl dX2_minus_13 ?_
        refine j_if_ne (tgt := 21) hX dX2_minus_16 (by decide) (fun h_16 => ?_) (fun h_16 => ?_)
        · skip
          refine j_inc2 hX dX2_minus_21 rfl (by omega) ?_
          refine j_goto (tgt := 2) hX dX2_minus_24 (by decide) ?_
          exact ih_2 _ (by omega) (by have h8 := gM_i hq9 hx; by_cases e8 : y = gV q x; exact absurd (by rw [e8]; exact h8.1) h_16; omega) (by omega)
        · skip
          refine j_il2 hX dX2_minus_19 ?_
          exact j_retI hR dX2_minus_20 ⟨gM_u hq9 hx ⟨hy.1, by omega⟩ (by omega), rfl⟩
  exact lp_2 _ _ (by omega) (gV_lt hq9 hx).1 (Nat.lt_succ_self _)
set_option maxHeartbeats 4000000 in
theorem ok_X2_orderOf {V : VV} {r x : Int} {q : Nat} (hr : grp r) (hg : GP V r q) (hx : 0 ≤ x ∧ x < gO q) : Ok NC yX2_orderOf cX2_orderOf 4 (some .int) 2 43 [vA r, vI x] V (pI (fun x9 V' => x9 = (gOd q x.toNat : Int) ∧ V' = V)) := by
  refine Ok.intro (by decide +kernel) (Nat.le_of_ble_eq_true rfl) (fun X G hX hG hR hoa hoV => ?_)
  show J X G 0 [vA r, vI x, vU, vU] [] V
  have hq6 := gO_le hg.1
  have hq9 := hg.1
  have e9 : V r 1 = gO q := hg.2.1
  have ho9 := gOd_ok q hq9 x.toNat (by omega)
  refine j_il1 hX dX2_orderOf_0 ?_
  refine j_is2 hX dX2_orderOf_1 rfl ?_
  refine j_iconst hX dX2_orderOf_2 ⟨by decide, by decide⟩ ?_
  refine j_is3 hX dX2_orderOf_3 rfl ?_
  have lp_4 : ∀ (f9 : Nat) (z f : Int), (1 ≤ f ∧ f ≤ gOd q x.toNat) → (z = gPw q x.toNat f.toNat) → ((7 - f).toNat) < f9 → J X G 4 [vA r, vI x, vI z, vI f] [] V := by
    intro f9
    induction f9 with
    | zero => intro z f _ _ hm; exact absurd hm (Nat.not_lt_zero _)
    | succ f9 ih_4 =>
      intro z f hf hz hm
      refine j_il2 hX dX2_orderOf_4 ?_
      refine j_if_eq (tgt := 29) hX dX2_orderOf_5 (by decide) (fun h_5 => ?_) (fun h_5 => ?_)
      · skip
        refine j_il3 hX dX2_orderOf_29 ?_
        exact j_retI hR dX2_orderOf_30 ⟨gOd_end hq9 hx hf hz (by omega), rfl⟩
      · skip
        refine j_il3 hX dX2_orderOf_8 ?_
        refine j_al0 hX dX2_orderOf_9 rfl ?_
        refine j_getI hX hG fl_X2_15 (Or.inl rfl) (by first | assumption | decide | exact ob8 (by assumption) | exact ob7 (by assumption) | exact ob2 (by assumption)) dX2_orderOf_10 ?_
        refine j_icmp_ge (tgt := 29) hX dX2_orderOf_13 (by decide) (fun h_13 => ?_) (fun h_13 => ?_)
        · skip
          refine j_il3 hX dX2_orderOf_29 ?_
          exact j_retI hR dX2_orderOf_30 ⟨gOd_end hq9 hx hf hz (by omega), rfl⟩
        · skip
          refine j_al0 hX dX2_orderOf_16 rfl ?_
          refine j_il2 hX dX2_orderOf_17 ?_
          refine j_il1 hX dX2_orderOf_18 ?_
          refine j_pVI2 (ci := 2) hX hG lk_X2_44 (ok_X2_times (by first | assumption | omega | decide) (by first | assumption | omega | decide) (by have h8 := gPw_lt q hq9 x.toNat (by omega) f.toNat (by omega); omega) (by first | assumption | omega | decide)) (by first | assumption | decide | exact ob8 (by assumption) | exact ob7 (by assumption) | exact ob2 (by assumption)) rfl (Nat.le_of_ble_eq_true rfl) (Nat.le_of_ble_eq_true rfl) (Nat.le_of_ble_eq_true rfl) rfl dX2_orderOf_19 ?_
          refine j_is2 hX dX2_orderOf_22 rfl ?_
          refine j_inc3 hX dX2_orderOf_23 rfl (by omega) ?_
          refine j_goto (tgt := 4) hX dX2_orderOf_26 (by decide) ?_
          exact ih_4 _ _ (by have h8 := gOd_step hq9 hx hf hz h_5; omega) (by rw [hz, gPw_S hf.1]; rfl) (by omega)
  exact lp_4 _ _ _ (by omega) (by rw [show (1 : Int).toNat = 1 from rfl]; show x = (gN q 0 x.toNat : Nat); rw [(gN_e q hq9 x.toNat (by omega)).2]; omega) (Nat.lt_succ_self _)
set_option maxHeartbeats 4000000 in
theorem ok_X2_commuting {V : VV} {r x : Int} {q : Nat} (hr : grp r) (hg : GP V r q) (hx : 0 ≤ x ∧ x < gO q) : Ok NC yX2_commuting cX2_commuting 4 (some .int) 2 43 [vA r, vI x] V (pI (fun x9 V' => x9 = stF (fun y => gM q x y == gM q y x) (gO q) ∧ V' = V)) := by
  refine Ok.intro (by decide +kernel) (Nat.le_of_ble_eq_true rfl) (fun X G hX hG hR hoa hoV => ?_)
  show J X G 0 [vA r, vI x, vU, vU] [] V
  have hq6 := gO_le hg.1
  have hq9 := hg.1
  have e9 : V r 1 = gO q := hg.2.1
  refine j_iconst hX dX2_commuting_0 ⟨by decide, by decide⟩ ?_
  refine j_is2 hX dX2_commuting_1 rfl ?_
  refine j_iconst hX dX2_commuting_2 ⟨by decide, by decide⟩ ?_
  refine j_is3 hX dX2_commuting_3 rfl ?_
  have lp_4 : ∀ (f9 : Nat) (s y : Int), (0 ≤ y ∧ y ≤ gO q) → (s = stF (fun y => gM q x y == gM q y x) y.toNat) → ((gO q - y).toNat) < f9 → J X G 4 [vA r, vI x, vI s, vI y] [] V := by
    intro f9
    induction f9 with
    | zero => intro s y _ _ hm; exact absurd hm (Nat.not_lt_zero _)
    | succ f9 ih_4 =>
      intro s y hy hs hm
      refine j_il3 hX dX2_commuting_4 ?_
      refine j_al0 hX dX2_commuting_5 rfl ?_
      refine j_getI hX hG fl_X2_15 (Or.inl rfl) (by first | assumption | decide | exact ob8 (by assumption) | exact ob7 (by assumption) | exact ob2 (by assumption)) dX2_commuting_6 ?_
      refine j_icmp_ge (tgt := 39) hX dX2_commuting_9 (by decide) (fun h_9 => ?_) (fun h_9 => ?_)
      · skip
        refine j_il2 hX dX2_commuting_39 ?_
        exact j_retI hR dX2_commuting_40 ⟨by rw [hs, show y.toNat = gO q by omega], rfl⟩
      · skip
        refine j_al0 hX dX2_commuting_12 rfl ?_
        refine j_il1 hX dX2_commuting_13 ?_
        refine j_il3 hX dX2_commuting_14 ?_
        refine j_pVI2 (ci := 2) hX hG lk_X2_44 (ok_X2_times (by first | assumption | omega | decide) (by first | assumption | omega | decide) (by first | assumption | omega | decide) (by first | assumption | omega | decide)) (by first | assumption | decide | exact ob8 (by assumption) | exact ob7 (by assumption) | exact ob2 (by assumption)) rfl (Nat.le_of_ble_eq_true rfl) (Nat.le_of_ble_eq_true rfl) (Nat.le_of_ble_eq_true rfl) rfl dX2_commuting_15 ?_
        refine j_al0 hX dX2_commuting_18 rfl ?_
        refine j_il3 hX dX2_commuting_19 ?_
        refine j_il1 hX dX2_commuting_20 ?_
        refine j_pVI2 (ci := 2) hX hG lk_X2_44 (ok_X2_times (by first | assumption | omega | decide) (by first | assumption | omega | decide) (by first | assumption | omega | decide) (by first | assumption | omega | decide)) (by first | assumption | decide | exact ob8 (by assumption) | exact ob7 (by assumption) | exact ob2 (by assumption)) rfl (Nat.le_of_ble_eq_true rfl) (Nat.le_of_ble_eq_true rfl) (Nat.le_of_ble_eq_true rfl) rfl dX2_commuting_21 ?_
        refine j_icmp_ne (tgt := 33) hX dX2_commuting_24 (by decide) (fun h_24 => ?_) (fun h_24 => ?_)
        · skip
          refine j_inc3 hX dX2_commuting_33 rfl (by omega) ?_
          refine j_goto (tgt := 4) hX dX2_commuting_36 (by decide) ?_
          exact ih_4 _ _ (by omega) (by rw [stF_S hy.1]; first | rw [if_pos (by simpa using h_24), hs] | rw [if_neg (by simpa using h_24), hs]) (by omega)
        · skip
          refine j_il2 hX dX2_commuting_27 ?_
          refine j_iconst hX dX2_commuting_28 ⟨by decide, by decide⟩ ?_
          refine j_il3 hX dX2_commuting_29 ?_
          refine j_ishl hX dX2_commuting_30 (by omega) (p2_30 (by omega)) ?_
          refine j_ior hX dX2_commuting_31 ?_
          refine j_is2 hX dX2_commuting_32 rfl ?_
          refine j_inc3 hX dX2_commuting_33 rfl (by omega) ?_
          refine j_goto (tgt := 4) hX dX2_commuting_36 (by decide) ?_
          exact ih_4 _ _ (by omega) (by rw [stF_S hy.1]; first | rw [if_pos (by simpa using h_24), hs] | rw [if_neg (by simpa using h_24), hs]) (by omega)
  exact lp_4 _ _ _ (by omega) rfl (Nat.lt_succ_self _)
set_option maxHeartbeats 4000000 in
theorem ok_X2_conjugates {V : VV} {r x : Int} {q : Nat} (hr : grp r) (hg : GP V r q) (hx : 0 ≤ x ∧ x < gO q) : Ok NC yX2_conjugates cX2_conjugates 4 (some .int) 3 65 [vA r, vI x] V (pI (fun x9 V' => x9 = stG (fun y => gM q (gM q y x) (gV q y)) (gO q) ∧ V' = V)) := by
  refine Ok.intro (by decide +kernel) (Nat.le_of_ble_eq_true rfl) (fun X G hX hG hR hoa hoV => ?_)
  show J X G 0 [vA r, vI x, vU, vU] [] V
  have hq6 := gO_le hg.1
  have hq9 := hg.1
  have e9 : V r 1 = gO q := hg.2.1
  refine j_iconst hX dX2_conjugates_0 ⟨by decide, by decide⟩ ?_
  refine j_is2 hX dX2_conjugates_1 rfl ?_
  refine j_iconst hX dX2_conjugates_2 ⟨by decide, by decide⟩ ?_
  refine j_is3 hX dX2_conjugates_3 rfl ?_
  have lp_4 : ∀ (f9 : Nat) (s y : Int), (0 ≤ y ∧ y ≤ gO q) → (s = stG (fun y => gM q (gM q y x) (gV q y)) y.toNat) → ((gO q - y).toNat) < f9 → J X G 4 [vA r, vI x, vI s, vI y] [] V := by
    intro f9
    induction f9 with
    | zero => intro s y _ _ hm; exact absurd hm (Nat.not_lt_zero _)
    | succ f9 ih_4 =>
      intro s y hy hs hm
      refine j_il3 hX dX2_conjugates_4 ?_
      refine j_al0 hX dX2_conjugates_5 rfl ?_
      refine j_getI hX hG fl_X2_15 (Or.inl rfl) (by first | assumption | decide | exact ob8 (by assumption) | exact ob7 (by assumption) | exact ob2 (by assumption)) dX2_conjugates_6 ?_
      refine j_icmp_ge (tgt := 38) hX dX2_conjugates_9 (by decide) (fun h_9 => ?_) (fun h_9 => ?_)
      · skip
        refine j_il2 hX dX2_conjugates_38 ?_
        exact j_retI hR dX2_conjugates_39 ⟨by rw [hs, show y.toNat = gO q by omega], rfl⟩
      · skip
        refine j_il2 hX dX2_conjugates_12 ?_
        refine j_iconst hX dX2_conjugates_13 ⟨by decide, by decide⟩ ?_
        refine j_al0 hX dX2_conjugates_14 rfl ?_
        refine j_al0 hX dX2_conjugates_15 rfl ?_
        refine j_il3 hX dX2_conjugates_16 ?_
        refine j_il1 hX dX2_conjugates_17 ?_
        refine j_pVI2 (ci := 2) hX hG lk_X2_44 (ok_X2_times (by first | assumption | omega | decide) (by first | assumption | omega | decide) (by first | assumption | omega | decide) (by first | assumption | omega | decide)) (by first | assumption | decide | exact ob8 (by assumption) | exact ob7 (by assumption) | exact ob2 (by assumption)) rfl (Nat.le_of_ble_eq_true rfl) (Nat.le_of_ble_eq_true rfl) (Nat.le_of_ble_eq_true rfl) rfl dX2_conjugates_18 ?_
        refine j_al0 hX dX2_conjugates_21 rfl ?_
        refine j_il3 hX dX2_conjugates_22 ?_
        refine j_pVI1 (ci := 2) hX hG lk_X2_47 (ok_X2_minus (by first | assumption | omega | decide) (by first | assumption | omega | decide) (by first | assumption | omega | decide)) (by first | assumption | decide | exact ob8 (by assumption) | exact ob7 (by assumption) | exact ob2 (by assumption)) rfl (Nat.le_of_ble_eq_true rfl) (Nat.le_of_ble_eq_true rfl) (Nat.le_of_ble_eq_true rfl) rfl dX2_conjugates_23 ?_
        refine j_pVI2 (ci := 2) hX hG lk_X2_44 (ok_X2_times (by first | assumption | omega | decide) (by first | assumption | omega | decide) (gM_lt hq9 (by omega) hx) (gV_lt hq9 (by omega))) (by first | assumption | decide | exact ob8 (by assumption) | exact ob7 (by assumption) | exact ob2 (by assumption)) rfl (Nat.le_of_ble_eq_true rfl) (Nat.le_of_ble_eq_true rfl) (Nat.le_of_ble_eq_true rfl) rfl dX2_conjugates_26 ?_
        refine j_ishl hX dX2_conjugates_29 (by have := gM_lt hq9 (gM_lt hq9 (show 0 ≤ y ∧ y < gO q by omega) hx) (gV_lt hq9 (show 0 ≤ y ∧ y < gO q by omega)); omega) (p2_30 (by have := gM_lt hq9 (gM_lt hq9 (show 0 ≤ y ∧ y < gO q by omega) hx) (gV_lt hq9 (show 0 ≤ y ∧ y < gO q by omega)); omega)) ?_
        refine j_ior hX dX2_conjugates_30 ?_
        refine j_is2 hX dX2_conjugates_31 rfl ?_
        refine j_inc3 hX dX2_conjugates_32 rfl (by omega) ?_
        refine j_goto (tgt := 4) hX dX2_conjugates_35 (by decide) ?_
        exact ih_4 _ _ (by omega) (by rw [stG_S hy.1, hs]) (by omega)
  exact lp_4 _ _ _ (by omega) rfl (Nat.lt_succ_self _)
set_option maxHeartbeats 4000000 in
theorem ok_X2_productsWithin {V : VV} {r : Int} {q s : Nat} (hr : grp r) (hg : GP V r q) (hs0 : s < 2 ^ gO q) : Ok NC yX2_productsWithin cX2_productsWithin 5 (some .int) 2 43 [vA r, vI (s : Int)] V (pI (fun x9 V' => x9 = (nPW q s : Int) ∧ V' = V)) := by
  refine Ok.intro (by decide +kernel) (Nat.le_of_ble_eq_true rfl) (fun X G hX hG hR hoa hoV => ?_)
  show J X G 0 [vA r, vI (s : Int), vU, vU, vU] [] V
  have hq6 := gO_le hg.1
  have hq9 := hg.1
  have e9 : V r 1 = gO q := hg.2.1
  have h64 := gO_64 hq9
  refine j_iconst hX dX2_productsWithin_0 ⟨by decide, by decide⟩ ?_
  refine j_is2 hX dX2_productsWithin_1 rfl ?_
  refine j_iconst hX dX2_productsWithin_2 ⟨by decide, by decide⟩ ?_
  refine j_is3 hX dX2_productsWithin_3 rfl ?_
  have lp_4 : ∀ (f9 : Nat) (a x : Int), (0 ≤ x ∧ x ≤ gO q) → (a = nOu q s x.toNat) → ((gO q - x).toNat) < f9 → J X G 4 [vA r, vI (s : Int), vI a, vI x, vU] [] V := by
    intro f9
    induction f9 with
    | zero => intro a x _ _ hm; exact absurd hm (Nat.not_lt_zero _)
    | succ f9 ih_4 =>
      intro a x hx ha hm
      refine j_il3 hX dX2_productsWithin_4 ?_
      refine j_al0 hX dX2_productsWithin_5 rfl ?_
      refine j_getI hX hG fl_X2_15 (Or.inl rfl) (by first | assumption | decide | exact ob8 (by assumption) | exact ob7 (by assumption) | exact ob2 (by assumption)) dX2_productsWithin_6 ?_
      refine j_icmp_ge (tgt := 65) hX dX2_productsWithin_9 (by decide) (fun h_9 => ?_) (fun h_9 => ?_)
      · skip
        refine j_il2 hX dX2_productsWithin_65 ?_
        exact j_retI hR dX2_productsWithin_66 ⟨by rw [ha, show x.toNat = gO q by omega]; rfl, rfl⟩
      · skip
        refine j_iconst hX dX2_productsWithin_12 ⟨by decide, by decide⟩ ?_
        refine j_is4 hX dX2_productsWithin_13 rfl ?_
        have lp_15 : ∀ (f9 : Nat) (a2 y : Int), (0 ≤ y ∧ y ≤ gO q) → (a2 = nIn q s x.toNat y.toNat (nOu q s x.toNat)) → ((gO q - y).toNat) < f9 → J X G 15 [vA r, vI (s : Int), vI a2, vI x, vI y] [] V := by
          intro f9
          induction f9 with
          | zero => intro a2 y _ _ hm; exact absurd hm (Nat.not_lt_zero _)
          | succ f9 ih_15 =>
            intro a2 y hy ha2 hm
            refine j_il4 hX dX2_productsWithin_15 ?_
            refine j_al0 hX dX2_productsWithin_17 rfl ?_
            refine j_getI hX hG fl_X2_15 (Or.inl rfl) (by first | assumption | decide | exact ob8 (by assumption) | exact ob7 (by assumption) | exact ob2 (by assumption)) dX2_productsWithin_18 ?_
            refine j_icmp_ge (tgt := 59) hX dX2_productsWithin_21 (by decide) (fun h_21 => ?_) (fun h_21 => ?_)
            · skip
              refine j_inc3 hX dX2_productsWithin_59 rfl (by omega) ?_
              refine j_goto (tgt := 4) hX dX2_productsWithin_62 (by decide) ?_
              refine j_fg4 ?_
              exact ih_4 _ _ (by omega) (by rw [nOu_S hx.1, ha2, show y.toNat = gO q by omega]) (by omega)
            · skip
              refine j_il1 hX dX2_productsWithin_24 ?_
              refine j_il3 hX dX2_productsWithin_25 ?_
              refine j_ishr hX dX2_productsWithin_26 (by omega) ?_
              refine j_iconst hX dX2_productsWithin_27 ⟨by decide, by decide⟩ ?_
              refine j_iand hX dX2_productsWithin_28 ?_
              refine j_if_eq (tgt := 53) hX dX2_productsWithin_29 (by decide) (fun h_29 => ?_) (fun h_29 => ?_)
              · skip
                refine j_inc4 hX dX2_productsWithin_53 rfl (by omega) ?_
                refine j_goto (tgt := 15) hX dX2_productsWithin_56 (by decide) ?_
                exact ih_15 _ _ (by omega) (by rw [nIn_S hy.1]; first | rw [if_neg (by simp only [Bool.and_eq_true, not_and]; first | (intro q8; rw [(hasN_0 (by omega) (by omega)).mp h_38]; decide) | (intro q8; rw [(hasN_0 (by omega) (by omega)).mp h_29] at q8; cases q8)), ha2] | (rw [if_pos (by rw [(hasN_1 (by omega) (by omega)).mp h_29, (hasN_1 (by omega) (by omega)).mp h_38]; rfl), ha2]; exact bor_g hq9 hx9 hy9 (nIn_lt hq9 (by omega) _ (by omega) _ (nOu_lt hq9 _ (by omega))))) (by omega)
              · skip
                refine j_il1 hX dX2_productsWithin_32 ?_
                refine j_il4 hX dX2_productsWithin_33 ?_
                refine j_ishr hX dX2_productsWithin_35 (by omega) ?_
                refine j_iconst hX dX2_productsWithin_36 ⟨by decide, by decide⟩ ?_
                refine j_iand hX dX2_productsWithin_37 ?_
                refine j_if_eq (tgt := 53) hX dX2_productsWithin_38 (by decide) (fun h_38 => ?_) (fun h_38 => ?_)
                · skip
                  refine j_inc4 hX dX2_productsWithin_53 rfl (by omega) ?_
                  refine j_goto (tgt := 15) hX dX2_productsWithin_56 (by decide) ?_
                  exact ih_15 _ _ (by omega) (by rw [nIn_S hy.1]; first | rw [if_neg (by simp only [Bool.and_eq_true, not_and]; first | (intro q8; rw [(hasN_0 (by omega) (by omega)).mp h_38]; decide) | (intro q8; rw [(hasN_0 (by omega) (by omega)).mp h_29] at q8; cases q8)), ha2] | (rw [if_pos (by rw [(hasN_1 (by omega) (by omega)).mp h_29, (hasN_1 (by omega) (by omega)).mp h_38]; rfl), ha2]; exact bor_g hq9 hx9 hy9 (nIn_lt hq9 (by omega) _ (by omega) _ (nOu_lt hq9 _ (by omega))))) (by omega)
                · skip
                  have hx9 : 0 ≤ x ∧ x < gO q := by omega
                  have hy9 : 0 ≤ y ∧ y < gO q := by omega
                  refine j_il2 hX dX2_productsWithin_41 ?_
                  refine j_iconst hX dX2_productsWithin_42 ⟨by decide, by decide⟩ ?_
                  refine j_al0 hX dX2_productsWithin_43 rfl ?_
                  refine j_il3 hX dX2_productsWithin_44 ?_
                  refine j_il4 hX dX2_productsWithin_45 ?_
                  refine j_pVI2 (ci := 2) hX hG lk_X2_44 (ok_X2_times (by first | assumption | omega | decide) (by first | assumption | omega | decide) (by first | assumption | omega | decide) (by first | assumption | omega | decide)) (by first | assumption | decide | exact ob8 (by assumption) | exact ob7 (by assumption) | exact ob2 (by assumption)) rfl (Nat.le_of_ble_eq_true rfl) (Nat.le_of_ble_eq_true rfl) (Nat.le_of_ble_eq_true rfl) rfl dX2_productsWithin_47 ?_
                  refine j_ishl hX dX2_productsWithin_50 (by have := gM_lt hq9 hx9 hy9; omega) (p2_30 (by have := gM_lt hq9 hx9 hy9; omega)) ?_
                  refine j_ior hX dX2_productsWithin_51 ?_
                  refine j_is2 hX dX2_productsWithin_52 rfl ?_
                  refine j_inc4 hX dX2_productsWithin_53 rfl (by omega) ?_
                  refine j_goto (tgt := 15) hX dX2_productsWithin_56 (by decide) ?_
                  exact ih_15 _ _ (by omega) (by rw [nIn_S hy.1]; first | rw [if_neg (by simp only [Bool.and_eq_true, not_and]; first | (intro q8; rw [(hasN_0 (by omega) (by omega)).mp h_38]; decide) | (intro q8; rw [(hasN_0 (by omega) (by omega)).mp h_29] at q8; cases q8)), ha2] | (rw [if_pos (by rw [(hasN_1 (by omega) (by omega)).mp h_29, (hasN_1 (by omega) (by omega)).mp h_38]; rfl), ha2]; exact bor_g hq9 hx9 hy9 (nIn_lt hq9 (by omega) _ (by omega) _ (nOu_lt hq9 _ (by omega))))) (by omega)
        exact lp_15 _ _ _ (by omega) (by rw [ha]; rfl) (Nat.lt_succ_self _)
  exact lp_4 _ _ _ (by omega) rfl (Nat.lt_succ_self _)
set_option maxHeartbeats 4000000 in
theorem ok_X2_span {V : VV} {r : Int} {q s : Nat} (hr : grp r) (hg : GP V r q) (hs0 : s < 2 ^ gO q) : Ok NC yX2_span cX2_span 4 (some .int) 3 67 [vA r, vI (s : Int)] V (pI (fun x9 V' => x9 = (nSp q s : Int) ∧ V' = V)) := by
  refine Ok.intro (by decide +kernel) (Nat.le_of_ble_eq_true rfl) (fun X G hX hG hR hoa hoV => ?_)
  show J X G 0 [vA r, vI (s : Int), vU, vU] [] V
  have hq6 := gO_le hg.1
  have hq9 := hg.1
  have e9 : V r 1 = gO q := hg.2.1
  have h64 := gO_64 hq9
  have h1 : s ||| 1 < 2 ^ gO q := Nat.or_lt_two_pow hs0 (Nat.lt_of_lt_of_le (by decide : 1 < 2 ^ 2) (Nat.pow_le_pow_right (by decide) hq6.1))
  refine j_il1 hX dX2_span_0 ?_
  refine j_iconst hX dX2_span_1 ⟨by decide, by decide⟩ ?_
  refine j_ior hX dX2_span_2 ?_
  refine j_is2 hX dX2_span_3 rfl ?_
  refine j_iconst hX dX2_span_4 ⟨by decide, by decide⟩ ?_
  refine j_is3 hX dX2_span_5 rfl ?_
  have lp_6 : ∀ (f9 : Nat) (k : Int) (a : Nat), (0 ≤ k ∧ k ≤ gO q) → (a = nIt q k.toNat (s ||| 1)) → ((gO q - k).toNat) < f9 → J X G 6 [vA r, vI (s : Int), vI (a : Int), vI k] [] V := by
    intro f9
    induction f9 with
    | zero => intro k a _ _ hm; exact absurd hm (Nat.not_lt_zero _)
    | succ f9 ih_6 =>
      intro k a hk ha hm
      refine j_il3 hX dX2_span_6 ?_
      refine j_al0 hX dX2_span_7 rfl ?_
      refine j_getI hX hG fl_X2_15 (Or.inl rfl) (by first | assumption | decide | exact ob8 (by assumption) | exact ob7 (by assumption) | exact ob2 (by assumption)) dX2_span_8 ?_
      refine j_icmp_ge (tgt := 28) hX dX2_span_11 (by decide) (fun h_11 => ?_) (fun h_11 => ?_)
      · skip
        refine j_il2 hX dX2_span_28 ?_
        exact j_retI hR dX2_span_29 ⟨by rw [ha, show k.toNat = gO q by omega]; rfl, rfl⟩
      · skip
        have ha9 : a < 2 ^ gO q := by rw [ha]; exact nIt_lt hq9 h1 _
        refine j_il2 hX dX2_span_14 ?_
        refine j_al0 hX dX2_span_15 rfl ?_
        refine j_il2 hX dX2_span_16 ?_
        refine j_pVI1 (ci := 2) hX hG lk_X2_51 (ok_X2_productsWithin (by first | assumption | omega | decide) (by first | assumption | omega | decide) (by first | assumption | omega | decide)) (by first | assumption | decide | exact ob8 (by assumption) | exact ob7 (by assumption) | exact ob2 (by assumption)) rfl (Nat.le_of_ble_eq_true rfl) (Nat.le_of_ble_eq_true rfl) (Nat.le_of_ble_eq_true rfl) rfl dX2_span_17 ?_
        refine j_ior hX dX2_span_20 ?_
        refine j_is2 hX dX2_span_21 rfl ?_
        refine j_inc3 hX dX2_span_22 rfl (by omega) ?_
        refine j_goto (tgt := 6) hX dX2_span_25 (by decide) ?_
        refine j_lc2 (x9 := ((a ||| nPW q a : Nat) : Int)) (by have := nPW_lt (s := a) hq9; rw [bor_nat (by omega) (by omega)]) ?_
        exact ih_6 _ _ (by omega) (by rw [nIt_S hk.1, ha]) (by omega)
  refine j_lc2 (x9 := ((s ||| 1 : Nat) : Int)) (by have := bor_p (a := s) (k := 0) (by omega) (by decide); exact this.symm) ?_
  exact lp_6 _ _ _ (by omega) rfl (Nat.lt_succ_self _)
set_option maxHeartbeats 4000000 in
theorem ok_X2_countSubgroups {V : VV} {r : Int} {q : Nat} (hr : grp r) (hg : GP V r q) : Ok NC yX2_countSubgroups cX2_countSubgroups 3 (some .int) 3 67 [vA r] V (pI (fun x9 V' => x9 = (nSub q : Int) ∧ V' = V)) := by
  refine Ok.intro (by decide +kernel) (Nat.le_of_ble_eq_true rfl) (fun X G hX hG hR hoa hoV => ?_)
  show J X G 0 [vA r, vU, vU] [] V
  have hq6 := gO_le hg.1
  have hq9 := hg.1
  have e9 : V r 1 = gO q := hg.2.1
  have h64 := gO_64 hq9
  have hp2 : ((2 : Int) ^ gO q) = ((2 ^ gO q : Nat) : Int) := by push_cast; rfl
  have hev : 2 ^ gO q % 2 = 0 := gO_ev hq9
  refine j_iconst hX dX2_countSubgroups_0 ⟨by decide, by decide⟩ ?_
  refine j_is1 hX dX2_countSubgroups_1 rfl ?_
  refine j_iconst hX dX2_countSubgroups_2 ⟨by decide, by decide⟩ ?_
  refine j_is2 hX dX2_countSubgroups_3 rfl ?_
  have lp_4 : ∀ (f9 : Nat) (c : Int) (s : Nat), (s % 2 = 1 ∧ s ≤ 2 ^ gO q + 1) → (c = nSc q s) → (0 ≤ c ∧ c ≤ s) → ((2 ^ gO q + 2 - s)) < f9 → J X G 4 [vA r, vI c, vI (s : Int)] [] V := by
    intro f9
    induction f9 with
    | zero => intro c s _ _ _ hm; exact absurd hm (Nat.not_lt_zero _)
    | succ f9 ih_4 =>
      intro c s hs1 hc hb hm
      refine j_il2 hX dX2_countSubgroups_4 ?_
      refine j_al0 hX dX2_countSubgroups_5 rfl ?_
      refine j_pVI0 (ci := 2) hX hG lk_X2_54 (ok_X2_all (by first | assumption | omega | decide) (by first | assumption | omega | decide)) (by first | assumption | decide | exact ob8 (by assumption) | exact ob7 (by assumption) | exact ob2 (by assumption)) rfl (Nat.le_of_ble_eq_true rfl) (Nat.le_of_ble_eq_true rfl) (Nat.le_of_ble_eq_true rfl) rfl dX2_countSubgroups_6 ?_
      refine j_icmp_gt (tgt := 30) hX dX2_countSubgroups_9 (by decide) (fun h_9 => ?_) (fun h_9 => ?_)
      · skip
        refine j_il1 hX dX2_countSubgroups_30 ?_
        exact j_retI hR dX2_countSubgroups_31 ⟨by rw [hc]; exact nSc_end hq9 (by omega) hs1.1 (by omega), rfl⟩
      · skip
        refine j_al0 hX dX2_countSubgroups_12 rfl ?_
        refine j_il2 hX dX2_countSubgroups_13 ?_
        refine j_pVI1 (ci := 2) hX hG lk_X2_51 (ok_X2_productsWithin (by first | assumption | omega | decide) (by first | assumption | omega | decide) (by omega)) (by first | assumption | decide | exact ob8 (by assumption) | exact ob7 (by assumption) | exact ob2 (by assumption)) rfl (Nat.le_of_ble_eq_true rfl) (Nat.le_of_ble_eq_true rfl) (Nat.le_of_ble_eq_true rfl) rfl dX2_countSubgroups_14 ?_
        refine j_il2 hX dX2_countSubgroups_17 ?_
        refine j_icmp_ne (tgt := 24) hX dX2_countSubgroups_18 (by decide) (fun h_18 => ?_) (fun h_18 => ?_)
        · skip
          refine j_inc2 hX dX2_countSubgroups_24 rfl (by omega) ?_
          refine j_goto (tgt := 4) hX dX2_countSubgroups_27 (by decide) ?_
          refine j_lc2 (x9 := ((s + 2 : Nat) : Int)) (by push_cast; rfl) ?_
          exact ih_4 _ _ (by omega) (by rw [nSc_S hs1.1 (Or.inl trivial)]; first | (rw [if_pos (by omega), hc]; push_cast; rfl) | rw [if_neg (by omega), hc]) (by omega) (by omega)
        · skip
          refine j_inc1 hX dX2_countSubgroups_21 rfl (by omega) ?_
          refine j_inc2 hX dX2_countSubgroups_24 rfl (by omega) ?_
          refine j_goto (tgt := 4) hX dX2_countSubgroups_27 (by decide) ?_
          refine j_lc2 (x9 := ((s + 2 : Nat) : Int)) (by push_cast; rfl) ?_
          exact ih_4 _ _ (by omega) (by rw [nSc_S hs1.1 (Or.inl trivial)]; first | (rw [if_pos (by omega), hc]; push_cast; rfl) | rw [if_neg (by omega), hc]) (by omega) (by omega)
  exact lp_4 _ _ _ ⟨by decide, Nat.succ_le_succ (Nat.zero_le _)⟩ (nSc_1 q).symm ⟨by decide, by decide⟩ (Nat.lt_succ_self _)
