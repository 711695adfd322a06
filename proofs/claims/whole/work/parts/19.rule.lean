set_option maxHeartbeats 4000000 in
theorem ok_X8_takeFactor {V : VV} {pl el b : Int} {q : Nat} (ho9 : RO V 6) (ht : TR V 6) (hg : GP V 4 q) (h3 : V 6 3 = gO q) (hpl : pl = -1 ∧ 0 ≤ el ∧ el < gO q ∨ 0 ≤ pl ∧ pl < V 6 4) (hv : 0 ≤ V 6 7 ∧ V 6 7 ≤ 1000000) : Ok NC yX8_takeFactor cX8_takeFactor 7 none 3 66 [vA 6, vA 4, vI pl, vI el, vI b] V (pV (fun V' => (∀ e, 0 ≤ e → e < V 6 5 → V' 7 e = gM q (V 7 e) (facF q (V 6 3) (V 6 4) pl el b e)) ∧ V' 6 7 = V 6 7 + 1 ∧ ∀ a c, ¬ (a = 6 ∧ c = 7) → a ≠ 7 → V' a c = V a c)) := by
  refine Ok.intro (by decide +kernel) (Nat.le_of_ble_eq_true rfl) (fun X G hX hG hR hoa hoV => ?_)
  show J X G 0 [vA 6, vA 4, vI pl, vI el, vI b, vU, vU] [] V
  have hb9 := ho9.b
  have hq9 := hg.1
  have hq6 := gO_le hq9
  refine j_iconst hX dX8_takeFactor_0 ⟨by decide, by decide⟩ ?_
  refine j_is5 hX dX8_takeFactor_1 rfl ?_
  have lp_3 : ∀ (f9 : Nat) (i : Int) (W : VV), (0 ≤ i ∧ i ≤ V 6 5) → (sm1 7 V W) → (∀ e, 0 ≤ e → e < i → W 7 e = gM q (V 7 e) (facF q (V 6 3) (V 6 4) pl el b e)) → (∀ e, i ≤ e → W 7 e = V 7 e) → ((V 6 5 - i).toNat) < f9 → J X G 3 [vA 6, vA 4, vI pl, vI el, vI b, vI i, vU] [] W := by
    intro f9
    induction f9 with
    | zero => intro i W _ _ _ _ hm; exact absurd hm (Nat.not_lt_zero _)
    | succ f9 ih_3 =>
      intro i W hi hs hT hr9 hm
      refine j_il5 hX dX8_takeFactor_3 ?_
      refine j_al0 hX dX8_takeFactor_5 rfl ?_
      refine j_getI hX hG fl_X8_36 (Or.inl rfl) (by decide) dX8_takeFactor_6 ?_
      refine j_icmp_ge (tgt := 70) hX dX8_takeFactor_9 (by decide) (fun h_9 => ?_) (fun h_9 => ?_)
      · skip
        refine j_al0 hX dX8_takeFactor_70 rfl ?_
        refine j_dup hX dX8_takeFactor_71 rfl ?_
        refine j_getI hX hG fl_X8_45 (Or.inl rfl) (by decide) dX8_takeFactor_72 ?_
        refine j_iconst hX dX8_takeFactor_75 ⟨by decide, by decide⟩ ?_
        refine j_iadd hX dX8_takeFactor_76 (by have := hs 6 7 (by decide); omega) ?_
        refine j_putI hX hG fp_X8_45 rfl (by decide) dX8_takeFactor_77 ?_
        exact j_ret hR dX8_takeFactor_80 ⟨fun e h0 h1 => by rw [up_n _ (by omega)]; exact hT e h0 (by have := hs 6 5 (by decide); omega), by rw [up_s, hs 6 7 (by decide)], fun a c h1 h2 => by rw [up_n _ h1]; exact hs a c h2⟩
      · skip
        have q5 := hs 6 5 (by decide)
        have q3 := hs 6 3 (by decide)
        have q4 := hs 6 4 (by decide)
        have qo : RO W 6 := ho9.sm (fun b => hs 6 b (by decide))
        have qg : GP W 4 q := hg.sm (fun b => hs 4 b (by decide)) (fun b => hs 5 b (by decide))
        have hd9 := dg_b (g := W 6 3) (e := i) (j := (W 6 4 - 1 - pl).toNat) (by omega)
        rw [show W 6 3 = gO q by omega] at hd9
        have hti := ht i hi.1 (by omega)
        have hWi : W (6 + 1) i = V 7 i := hr9 i (Int.le_refl _)
        have hti2 : 0 ≤ V 7 i ∧ V 7 i < V 6 3 := hti
        refine j_il2 hX dX8_takeFactor_12 ?_
        refine j_iconst hX dX8_takeFactor_13 ⟨by decide, by decide⟩ ?_
        refine j_icmp_ne (tgt := 21) hX dX8_takeFactor_14 (by decide) (fun h_14 => ?_) (fun h_14 => ?_)
        · skip
          refine j_al0 hX dX8_takeFactor_21 rfl ?_
          refine j_il5 hX dX8_takeFactor_22 ?_
          refine j_il2 hX dX8_takeFactor_24 ?_
          refine j_pVI2 (ci := 8) hX hG lk_X8_60 (ok_X8_stateOf (by first | assumption | omega | decide) (by first | assumption | omega | decide) hi.1 (by first | assumption | omega | decide)) (by decide) rfl (Nat.le_of_ble_eq_true rfl) (Nat.le_of_ble_eq_true rfl) (Nat.le_of_ble_eq_true rfl) rfl dX8_takeFactor_25 ?_
          try dsimp only [Int.reduceAdd]
          refine j_is6 hX dX8_takeFactor_28 rfl ?_
          refine j_il4 hX dX8_takeFactor_30 ?_
          refine j_if_eq (tgt := 43) hX dX8_takeFactor_32 (by decide) (fun h_32 => ?_) (fun h_32 => ?_)
          · skip
            refine j_al0 hX dX8_takeFactor_43 rfl ?_
            refine j_getR (q := 7) hX hG fl_X8_9 rfl rfl (by decide) dX8_takeFactor_44 ?_
            refine j_il5 hX dX8_takeFactor_47 ?_
            refine j_al1 hX dX8_takeFactor_49 rfl ?_
            refine j_al0 hX dX8_takeFactor_50 rfl ?_
            refine j_il5 hX dX8_takeFactor_51 ?_
            refine j_pVI1 (ci := 8) hX hG lk_X8_52 (ok_X8_gives (by first | assumption | omega | decide) (by first | assumption | omega | decide)) (by decide) rfl (Nat.le_of_ble_eq_true rfl) (Nat.le_of_ble_eq_true rfl) (Nat.le_of_ble_eq_true rfl) rfl dX8_takeFactor_53 ?_
            try dsimp only [Int.reduceAdd]
            refine j_il6 hX dX8_takeFactor_56 ?_
            refine j_pVI2 (ci := 2) hX hG lk_X8_68 (ok_X2_times (by first | assumption | omega | decide) (by first | assumption | omega | decide) (by show 0 ≤ W 7 i ∧ W 7 i < gO q; rw [hr9 i (Int.le_refl _)]; omega) (by first | omega | exact gV_lt hq9 (by omega) | (rw [show W 6 3 = gO q by omega]; exact hd9) | (rw [show W 6 3 = gO q by omega]; exact gV_lt hq9 hd9))) (by decide) rfl (Nat.le_of_ble_eq_true rfl) (Nat.le_of_ble_eq_true rfl) (Nat.le_of_ble_eq_true rfl) rfl dX8_takeFactor_58 ?_
            try dsimp only [Int.reduceAdd]
            refine j_cSV3 hX hG lk_X8_56 (ok_X11_put_in (n := 216) (by decide) (by first | assumption | decide) (by first | assumption | omega | decide)) (Nat.le_of_ble_eq_true rfl) (Nat.le_of_ble_eq_true rfl) (Nat.le_of_ble_eq_true rfl) rfl dX8_takeFactor_61 (fun V_61 h_61 => ?_)
            subst h_61
            refine j_inc5 hX dX8_takeFactor_64 rfl (by omega) ?_
            refine j_goto (tgt := 3) hX dX8_takeFactor_67 (by decide) ?_
            refine j_fg6 ?_
            exact ih_3 _ _ (by omega) (sm1_u hs) (lt_stepI (fun b h8 h9 => by rw [up_n _ (by omega)]; exact hT b h8 h9) (by rw [up_s]; show gM q (W 7 i) _ = _; rw [hr9 i (Int.le_refl _)]; unfold facF; first | rw [if_pos h_32, if_pos h_14] | rw [if_neg h_32, if_pos h_14] | rw [if_pos h_32, if_neg h_14, q3, q4] | rw [if_neg h_32, if_neg h_14, q3, q4])) (fun e he => by rw [up_n _ (by omega)]; exact hr9 e (by omega)) (by omega)
          · skip
            refine j_al1 hX dX8_takeFactor_35 rfl ?_
            refine j_il6 hX dX8_takeFactor_36 ?_
            refine j_pVI1 (ci := 2) hX hG lk_X8_63 (ok_X2_minus (by first | assumption | omega | decide) (by first | assumption | omega | decide) (by first | exact hd9 | omega | (rw [show W 6 3 = gO q by omega]; exact hd9))) (by decide) rfl (Nat.le_of_ble_eq_true rfl) (Nat.le_of_ble_eq_true rfl) (Nat.le_of_ble_eq_true rfl) rfl dX8_takeFactor_38 ?_
            try dsimp only [Int.reduceAdd]
            refine j_is6 hX dX8_takeFactor_41 rfl ?_
            refine j_al0 hX dX8_takeFactor_43 rfl ?_
            refine j_getR (q := 7) hX hG fl_X8_9 rfl rfl (by decide) dX8_takeFactor_44 ?_
            refine j_il5 hX dX8_takeFactor_47 ?_
            refine j_al1 hX dX8_takeFactor_49 rfl ?_
            refine j_al0 hX dX8_takeFactor_50 rfl ?_
            refine j_il5 hX dX8_takeFactor_51 ?_
            refine j_pVI1 (ci := 8) hX hG lk_X8_52 (ok_X8_gives (by first | assumption | omega | decide) (by first | assumption | omega | decide)) (by decide) rfl (Nat.le_of_ble_eq_true rfl) (Nat.le_of_ble_eq_true rfl) (Nat.le_of_ble_eq_true rfl) rfl dX8_takeFactor_53 ?_
            try dsimp only [Int.reduceAdd]
            refine j_il6 hX dX8_takeFactor_56 ?_
            refine j_pVI2 (ci := 2) hX hG lk_X8_68 (ok_X2_times (by first | assumption | omega | decide) (by first | assumption | omega | decide) (by show 0 ≤ W 7 i ∧ W 7 i < gO q; rw [hr9 i (Int.le_refl _)]; omega) (by first | omega | exact gV_lt hq9 (by omega) | (rw [show W 6 3 = gO q by omega]; exact hd9) | (rw [show W 6 3 = gO q by omega]; exact gV_lt hq9 hd9))) (by decide) rfl (Nat.le_of_ble_eq_true rfl) (Nat.le_of_ble_eq_true rfl) (Nat.le_of_ble_eq_true rfl) rfl dX8_takeFactor_58 ?_
            try dsimp only [Int.reduceAdd]
            refine j_cSV3 hX hG lk_X8_56 (ok_X11_put_in (n := 216) (by decide) (by first | assumption | decide) (by first | assumption | omega | decide)) (Nat.le_of_ble_eq_true rfl) (Nat.le_of_ble_eq_true rfl) (Nat.le_of_ble_eq_true rfl) rfl dX8_takeFactor_61 (fun V_61 h_61 => ?_)
            subst h_61
            refine j_inc5 hX dX8_takeFactor_64 rfl (by omega) ?_
            refine j_goto (tgt := 3) hX dX8_takeFactor_67 (by decide) ?_
            refine j_fg6 ?_
            exact ih_3 _ _ (by omega) (sm1_u hs) (lt_stepI (fun b h8 h9 => by rw [up_n _ (by omega)]; exact hT b h8 h9) (by rw [up_s]; show gM q (W 7 i) _ = _; rw [hr9 i (Int.le_refl _)]; unfold facF; first | rw [if_pos h_32, if_pos h_14] | rw [if_neg h_32, if_pos h_14] | rw [if_pos h_32, if_neg h_14, q3, q4] | rw [if_neg h_32, if_neg h_14, q3, q4])) (fun e he => by rw [up_n _ (by omega)]; exact hr9 e (by omega)) (by omega)
        · skip
          refine j_il3 hX dX8_takeFactor_17 ?_
          refine j_goto (tgt := 28) hX dX8_takeFactor_18 (by decide) ?_
          refine j_is6 hX dX8_takeFactor_28 rfl ?_
          refine j_il4 hX dX8_takeFactor_30 ?_
          refine j_if_eq (tgt := 43) hX dX8_takeFactor_32 (by decide) (fun h_32 => ?_) (fun h_32 => ?_)
          · skip
            refine j_al0 hX dX8_takeFactor_43 rfl ?_
            refine j_getR (q := 7) hX hG fl_X8_9 rfl rfl (by decide) dX8_takeFactor_44 ?_
            refine j_il5 hX dX8_takeFactor_47 ?_
            refine j_al1 hX dX8_takeFactor_49 rfl ?_
            refine j_al0 hX dX8_takeFactor_50 rfl ?_
            refine j_il5 hX dX8_takeFactor_51 ?_
            refine j_pVI1 (ci := 8) hX hG lk_X8_52 (ok_X8_gives (by first | assumption | omega | decide) (by first | assumption | omega | decide)) (by decide) rfl (Nat.le_of_ble_eq_true rfl) (Nat.le_of_ble_eq_true rfl) (Nat.le_of_ble_eq_true rfl) rfl dX8_takeFactor_53 ?_
            try dsimp only [Int.reduceAdd]
            refine j_il6 hX dX8_takeFactor_56 ?_
            refine j_pVI2 (ci := 2) hX hG lk_X8_68 (ok_X2_times (by first | assumption | omega | decide) (by first | assumption | omega | decide) (by show 0 ≤ W 7 i ∧ W 7 i < gO q; rw [hr9 i (Int.le_refl _)]; omega) (by first | omega | exact gV_lt hq9 (by omega) | (rw [show W 6 3 = gO q by omega]; exact hd9) | (rw [show W 6 3 = gO q by omega]; exact gV_lt hq9 hd9))) (by decide) rfl (Nat.le_of_ble_eq_true rfl) (Nat.le_of_ble_eq_true rfl) (Nat.le_of_ble_eq_true rfl) rfl dX8_takeFactor_58 ?_
            try dsimp only [Int.reduceAdd]
            refine j_cSV3 hX hG lk_X8_56 (ok_X11_put_in (n := 216) (by decide) (by first | assumption | decide) (by first | assumption | omega | decide)) (Nat.le_of_ble_eq_true rfl) (Nat.le_of_ble_eq_true rfl) (Nat.le_of_ble_eq_true rfl) rfl dX8_takeFactor_61 (fun V_61 h_61 => ?_)
            subst h_61
            refine j_inc5 hX dX8_takeFactor_64 rfl (by omega) ?_
            refine j_goto (tgt := 3) hX dX8_takeFactor_67 (by decide) ?_
            refine j_fg6 ?_
            exact ih_3 _ _ (by omega) (sm1_u hs) (lt_stepI (fun b h8 h9 => by rw [up_n _ (by omega)]; exact hT b h8 h9) (by rw [up_s]; show gM q (W 7 i) _ = _; rw [hr9 i (Int.le_refl _)]; unfold facF; first | rw [if_pos h_32, if_pos h_14] | rw [if_neg h_32, if_pos h_14] | rw [if_pos h_32, if_neg h_14, q3, q4] | rw [if_neg h_32, if_neg h_14, q3, q4])) (fun e he => by rw [up_n _ (by omega)]; exact hr9 e (by omega)) (by omega)
          · skip
            refine j_al1 hX dX8_takeFactor_35 rfl ?_
            refine j_il6 hX dX8_takeFactor_36 ?_
            refine j_pVI1 (ci := 2) hX hG lk_X8_63 (ok_X2_minus (by first | assumption | omega | decide) (by first | assumption | omega | decide) (by first | exact hd9 | omega | (rw [show W 6 3 = gO q by omega]; exact hd9))) (by decide) rfl (Nat.le_of_ble_eq_true rfl) (Nat.le_of_ble_eq_true rfl) (Nat.le_of_ble_eq_true rfl) rfl dX8_takeFactor_38 ?_
            try dsimp only [Int.reduceAdd]
            refine j_is6 hX dX8_takeFactor_41 rfl ?_
            refine j_al0 hX dX8_takeFactor_43 rfl ?_
            refine j_getR (q := 7) hX hG fl_X8_9 rfl rfl (by decide) dX8_takeFactor_44 ?_
            refine j_il5 hX dX8_takeFactor_47 ?_
            refine j_al1 hX dX8_takeFactor_49 rfl ?_
            refine j_al0 hX dX8_takeFactor_50 rfl ?_
            refine j_il5 hX dX8_takeFactor_51 ?_
            refine j_pVI1 (ci := 8) hX hG lk_X8_52 (ok_X8_gives (by first | assumption | omega | decide) (by first | assumption | omega | decide)) (by decide) rfl (Nat.le_of_ble_eq_true rfl) (Nat.le_of_ble_eq_true rfl) (Nat.le_of_ble_eq_true rfl) rfl dX8_takeFactor_53 ?_
            try dsimp only [Int.reduceAdd]
            refine j_il6 hX dX8_takeFactor_56 ?_
            refine j_pVI2 (ci := 2) hX hG lk_X8_68 (ok_X2_times (by first | assumption | omega | decide) (by first | assumption | omega | decide) (by show 0 ≤ W 7 i ∧ W 7 i < gO q; rw [hr9 i (Int.le_refl _)]; omega) (by first | omega | exact gV_lt hq9 (by omega) | (rw [show W 6 3 = gO q by omega]; exact hd9) | (rw [show W 6 3 = gO q by omega]; exact gV_lt hq9 hd9))) (by decide) rfl (Nat.le_of_ble_eq_true rfl) (Nat.le_of_ble_eq_true rfl) (Nat.le_of_ble_eq_true rfl) rfl dX8_takeFactor_58 ?_
            try dsimp only [Int.reduceAdd]
            refine j_cSV3 hX hG lk_X8_56 (ok_X11_put_in (n := 216) (by decide) (by first | assumption | decide) (by first | assumption | omega | decide)) (Nat.le_of_ble_eq_true rfl) (Nat.le_of_ble_eq_true rfl) (Nat.le_of_ble_eq_true rfl) rfl dX8_takeFactor_61 (fun V_61 h_61 => ?_)
            subst h_61
            refine j_inc5 hX dX8_takeFactor_64 rfl (by omega) ?_
            refine j_goto (tgt := 3) hX dX8_takeFactor_67 (by decide) ?_
            refine j_fg6 ?_
            exact ih_3 _ _ (by omega) (sm1_u hs) (lt_stepI (fun b h8 h9 => by rw [up_n _ (by omega)]; exact hT b h8 h9) (by rw [up_s]; show gM q (W 7 i) _ = _; rw [hr9 i (Int.le_refl _)]; unfold facF; first | rw [if_pos h_32, if_pos h_14] | rw [if_neg h_32, if_pos h_14] | rw [if_pos h_32, if_neg h_14, q3, q4] | rw [if_neg h_32, if_neg h_14, q3, q4])) (fun e he => by rw [up_n _ (by omega)]; exact hr9 e (by omega)) (by omega)
  exact lp_3 _ _ _ (by omega) sm1_0 (by omega) (fun _ _ => rfl) (Nat.lt_succ_self _)
set_option maxHeartbeats 4000000 in
theorem ok_X8_link {V : VV} (ho9 : RO V 15) (ht : TR V 15) : Ok NC yX8_link cX8_link 5 none 2 43 [vA 15] V (pV (fun V' => LK V' 17 (V 15 5) (V 16) (fun e => e / V 15 3) (fun e => e % V 15 6) ∧ LK V' 18 (V 15 5) (V 16) (fun e => e % V 15 6) (fun e => e / V 15 3) ∧ sm2 17 18 V V')) := by
  refine Ok.intro (by decide +kernel) (Nat.le_of_ble_eq_true rfl) (fun X G hX hG hR hoa hoV => ?_)
  show J X G 0 [vA 15, vU, vU, vU, vU] [] V
  have hb9 := ho9.b
  refine j_al0 hX dX8_link_0 rfl ?_
  refine j_getR (q := 17) hX hG fl_X8_15 rfl rfl (by decide) dX8_link_1 ?_
  refine j_lconst (x := 0) hX dX8_link_4 rfl ⟨by decide, by decide⟩ ?_
  refine j_cSV2 hX hG lk_X8_88 (ok_J7_fill_d0a16 (n := 216) (by decide) (by first | assumption | decide)) (Nat.le_of_ble_eq_true rfl) (Nat.le_of_ble_eq_true rfl) (Nat.le_of_ble_eq_true rfl) rfl dX8_link_5 (fun V_5 h_5 => ?_)
  subst h_5
  refine j_al0 hX dX8_link_8 rfl ?_
  refine j_getR (q := 18) hX hG fl_X8_19 rfl rfl (by decide) dX8_link_9 ?_
  refine j_lconst (x := 0) hX dX8_link_12 rfl ⟨by decide, by decide⟩ ?_
  refine j_cSV2 hX hG lk_X8_88 (ok_J7_fill_d0a16 (n := 216) (by decide) (by first | assumption | decide)) (Nat.le_of_ble_eq_true rfl) (Nat.le_of_ble_eq_true rfl) (Nat.le_of_ble_eq_true rfl) rfl dX8_link_13 (fun V_13 h_13 => ?_)
  subst h_13
  refine j_iconst hX dX8_link_16 ⟨by decide, by decide⟩ ?_
  refine j_is1 hX dX8_link_17 rfl ?_
  have lp_18 : ∀ (f9 : Nat) (i : Int) (W : VV), (0 ≤ i ∧ i ≤ V 15 5) → (sm2 17 18 V W) → (LK W 17 i (V 16) (fun e => e / V 15 3) (fun e => e % V 15 6)) → (LK W 18 i (V 16) (fun e => e % V 15 6) (fun e => e / V 15 3)) → ((V 15 5 - i).toNat) < f9 → J X G 18 [vA 15, vI i, vU, vU, vU] [] W := by
    intro f9
    induction f9 with
    | zero => intro i W _ _ _ _ hm; exact absurd hm (Nat.not_lt_zero _)
    | succ f9 ih_18 =>
      intro i W hi hs h1 h2 hm
      refine j_il1 hX dX8_link_18 ?_
      refine j_al0 hX dX8_link_19 rfl ?_
      refine j_getI hX hG fl_X8_36 (Or.inl rfl) (by decide) dX8_link_20 ?_
      refine j_icmp_ge (tgt := 106) hX dX8_link_23 (by decide) (fun h_23 => ?_) (fun h_23 => ?_)
      · skip
        exact j_ret hR dX8_link_106 (by have q5 := hs 15 5 (by decide) (by decide); have hi9 : i = V 15 5 := (by omega); rw [hi9] at h1 h2; exact ⟨h1, h2, hs⟩)
      · skip
        have q5 := hs 15 5 (by decide) (by decide)
        have q3 := hs 15 3 (by decide) (by decide)
        have q6 := hs 15 6 (by decide) (by decide)
        have qT : W 16 i = V 16 i := hs 16 i (by decide) (by decide)
        have hti : 0 ≤ V 16 i ∧ V 16 i < V 15 3 := ht i hi.1 (by omega)
        have hf9 := nd_div ho9 hi.1 (show i < V 15 5 by omega)
        have ht9 := md_b i (n := V 15 6) (by omega)
        have qW : True = True := rfl
        refine j_al0 hX dX8_link_26 rfl ?_
        refine j_il1 hX dX8_link_27 ?_
        refine j_pVI1 (ci := 8) hX hG lk_X8_52 (ok_X8_gives (Or.inr (Or.inl rfl)) (by first | assumption | omega | decide)) (by decide) rfl (Nat.le_of_ble_eq_true rfl) (Nat.le_of_ble_eq_true rfl) (Nat.le_of_ble_eq_true rfl) rfl dX8_link_28 ?_
        try dsimp only [Int.reduceAdd]
        refine j_is2 hX dX8_link_31 rfl ?_
        refine j_il1 hX dX8_link_32 ?_
        refine j_al0 hX dX8_link_33 rfl ?_
        refine j_getI hX hG fl_X8_22 (Or.inl rfl) (by decide) dX8_link_34 ?_
        refine j_pSI2 hX hG lk_X8_82 (ok_X11_quotient_in (by first | assumption | omega | decide) (by first | assumption | omega | decide)) (Nat.le_of_ble_eq_true rfl) (Nat.le_of_ble_eq_true rfl) (Nat.le_of_ble_eq_true rfl) rfl dX8_link_37 ?_
        refine j_is3 hX dX8_link_40 rfl ?_
        refine j_il1 hX dX8_link_41 ?_
        refine j_al0 hX dX8_link_42 rfl ?_
        refine j_getI hX hG fl_X8_33 (Or.inl rfl) (by decide) dX8_link_43 ?_
        refine j_pSI2 hX hG lk_X8_85 (ok_X11_remainder_in (by first | assumption | omega | decide) (by first | assumption | omega | decide)) (Nat.le_of_ble_eq_true rfl) (Nat.le_of_ble_eq_true rfl) (Nat.le_of_ble_eq_true rfl) rfl dX8_link_46 ?_
        refine j_is4 hX dX8_link_49 rfl ?_
        refine j_rw5 (x2 := V 16 i) (x3 := i / V 15 3) (x4 := i % V 15 6) (by rw [qT]) (by rw [q3]) (by rw [q6]) ?_
        refine j_al0 hX dX8_link_51 rfl ?_
        refine j_getR (q := 17) hX hG fl_X8_15 rfl rfl (by decide) dX8_link_52 ?_
        refine j_il2 hX dX8_link_55 ?_
        refine j_bipush hX dX8_link_56 (by decide) ⟨by decide, by decide⟩ ?_
        refine j_imul hX dX8_link_58 (by omega) ?_
        refine j_il3 hX dX8_link_59 ?_
        refine j_iadd hX dX8_link_60 (by omega) ?_
        refine j_al0 hX dX8_link_61 rfl ?_
        refine j_il2 hX dX8_link_62 ?_
        refine j_il3 hX dX8_link_63 ?_
        refine j_pVL2 (ci := 8) hX hG lk_X8_91 (ok_X8_after (by first | assumption | omega | decide) (by first | assumption | omega | decide) (by first | assumption | omega | decide)) (by decide) rfl (Nat.le_of_ble_eq_true rfl) (Nat.le_of_ble_eq_true rfl) (Nat.le_of_ble_eq_true rfl) rfl dX8_link_64 ?_
        try dsimp only [Int.reduceAdd]
        refine j_lconst (x := 1) hX dX8_link_67 rfl ⟨by decide, by decide⟩ ?_
        refine j_il4 hX dX8_link_68 ?_
        refine j_lshl hX dX8_link_70 (by omega) (p2_62 (by omega)) ?_
        refine j_lor hX dX8_link_71 ?_
        refine j_cSV3 hX hG lk_X8_95 (ok_X11_putBits_in (n := 216) (by decide) (by first | assumption | decide) (by first | assumption | omega | decide)) (Nat.le_of_ble_eq_true rfl) (Nat.le_of_ble_eq_true rfl) (Nat.le_of_ble_eq_true rfl) rfl dX8_link_72 (fun V_72 h_72 => ?_)
        subst h_72
        refine j_al0 hX dX8_link_75 rfl ?_
        refine j_getR (q := 18) hX hG fl_X8_19 rfl rfl (by decide) dX8_link_76 ?_
        refine j_il2 hX dX8_link_79 ?_
        refine j_bipush hX dX8_link_80 (by decide) ⟨by decide, by decide⟩ ?_
        refine j_imul hX dX8_link_82 (by omega) ?_
        refine j_il4 hX dX8_link_83 ?_
        refine j_iadd hX dX8_link_85 (by omega) ?_
        refine j_al0 hX dX8_link_86 rfl ?_
        refine j_il2 hX dX8_link_87 ?_
        refine j_il4 hX dX8_link_88 ?_
        refine j_pVL2 (ci := 8) hX hG lk_X8_99 (ok_X8_before (by first | assumption | omega | decide) (by first | assumption | omega | decide) (by first | assumption | omega | decide)) (by decide) rfl (Nat.le_of_ble_eq_true rfl) (Nat.le_of_ble_eq_true rfl) (Nat.le_of_ble_eq_true rfl) rfl dX8_link_90 ?_
        try dsimp only [Int.reduceAdd]
        refine j_lconst (x := 1) hX dX8_link_93 rfl ⟨by decide, by decide⟩ ?_
        refine j_il3 hX dX8_link_94 ?_
        refine j_lshl hX dX8_link_95 (by omega) (p2_62 (by omega)) ?_
        refine j_lor hX dX8_link_96 ?_
        refine j_cSV3 hX hG lk_X8_95 (ok_X11_putBits_in (n := 216) (by decide) (by first | assumption | decide) (by first | assumption | omega | decide)) (Nat.le_of_ble_eq_true rfl) (Nat.le_of_ble_eq_true rfl) (Nat.le_of_ble_eq_true rfl) rfl dX8_link_97 (fun V_97 h_97 => ?_)
        subst h_97
        refine j_inc1 hX dX8_link_100 rfl (by omega) ?_
        refine j_goto (tgt := 18) hX dX8_link_103 (by decide) ?_
        refine j_fg2 ?_
        refine j_fg3 ?_
        refine j_fg4 ?_
        exact ih_18 _ _ (by omega) (sm2_u (sm2_u hs (Or.inl rfl)) (Or.inr rfl)) (by rw [up_n _ (by omega)]; have h9 := LK_n (k' := 18) (j := V 16 i * 36 + i % V 15 6) (x := bor 64 (W 18 (V 16 i * 36 + i % V 15 6)) (1 * 2 ^ (i / V 15 3).toNat)) (LK_S h1 hi.1 (by omega) hf9 (by omega)) (by decide); simpa only [qW] using h9) (LK_S (LK_n h2 (by decide)) hi.1 (by omega) ⟨ht9.1, by omega⟩ (by omega)) (by omega)
  exact lp_18 _ _ _ (by omega) (fun a b h1 h2 => by simp [fillV, h1, h2]) (LK_0 (fun j h0 h1 => by simp [fillV, h0, h1])) (LK_0 (fun j h0 h1 => by simp [fillV, h0, h1])) (Nat.lt_succ_self _)
