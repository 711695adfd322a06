theorem stm_e {T : Int → Int} {g w n : Int} {R : Int → Int} {k : Int} (hw : 2 ≤ w ∧ w ≤ 3) (hn : 1 ≤ n) (h0 : 0 ≤ k) (h1 : k < n) : stepF T g w n R k = T (if w = 2 then g * R k + R ((k + 1) % n) else g * (g * R ((k + n - 1) % n) + R k) + R ((k + 1) % n)) := by
  rw [← stepF_e hw h0 h1]
  by_cases z : w = 2
  · rw [if_pos z, if_pos z, z, show k - 2 + 2 = k by omega, Int.emod_eq_of_lt h0 h1, Int.mul_comm]
  · have z3 : w = 3 := by omega
    rw [if_neg z, if_neg z, z3, show k - 3 + 2 + 1 = k by omega, show k - 3 + 2 + 2 = k + 1 by omega, Int.emod_eq_of_lt h0 h1, show k + n - 1 = k - 3 + 2 + n by omega, Int.add_emod_right, Int.mul_comm g, Int.mul_comm g]
set_option maxHeartbeats 4000000 in
theorem ok_X12_steps {V : VV} (hmo : MO V) (hnm : 1 ≤ V 55 5 ∧ V 55 5 ≤ 16) (hrn : ∀ k, 0 ≤ k → k < V 55 5 → 0 ≤ V 59 k ∧ V 59 k < V 55 1) : Ok NA yX12_steps cX12_steps 3 none 0 0 [vA 55] V (pV (fun V' => (∀ k, 0 ≤ k → k < V 55 5 → V' 59 k = stepF (V 58) (V 55 1) (V 55 2) (V 55 5) (V 59) k) ∧ fr [59, 84] V V')) := by
  refine Ok.intro (by decide +kernel) (Nat.le_of_ble_eq_true rfl) (fun X G hX hG hR hoa hoV => ?_)
  show J X G 0 [vA 55, vU, vU] [] V
  have hb9 := hmo.b
  refine j_iconst hX dX12_steps_0 ⟨by decide, by decide⟩ ?_
  refine j_is1 hX dX12_steps_1 rfl ?_
  have lp_2 : ∀ (f9 : Nat) (k : Int) (W : VV), (0 ≤ k ∧ k ≤ V 55 5) → (fr [84] V W) → (∀ j, 0 ≤ j → j < k → W 84 j = stepF (V 58) (V 55 1) (V 55 2) (V 55 5) (V 59) j) → ((V 55 5 - k).toNat) < f9 → J X G 2 [vA 55, vI k, vU] [] W := by
    intro f9
    induction f9 with
    | zero => intro k W _ _ _ hm; exact absurd hm (Nat.not_lt_zero _)
    | succ f9 ih_2 =>
      intro k W hk hs hTT hm
      refine j_il1 hX dX12_steps_2 ?_
      refine j_al0 hX dX12_steps_3 rfl ?_
      refine j_getI hX hG fl_X12_142 (Or.inl rfl) (by decide) dX12_steps_4 ?_
      refine j_eqS (st' := [vI (V 55 5), vI k]) (by rw [hs 55 5 (by decide)]) ?_
      refine j_icmp_ge (tgt := 102) hX dX12_steps_7 (by decide) (fun h_7 => ?_) (fun h_7 => ?_)
      · skip
        refine j_iconst hX dX12_steps_102 ⟨by decide, by decide⟩ ?_
        refine j_is1 hX dX12_steps_103 rfl ?_
        have lp_104 : ∀ (f9 : Nat) (m : Int) (Z : VV), (0 ≤ m ∧ m ≤ V 55 5) → (fr [59] W Z) → (∀ j, 0 ≤ j → j < m → Z 59 j = stepF (V 58) (V 55 1) (V 55 2) (V 55 5) (V 59) j) → ((V 55 5 - m).toNat) < f9 → J X G 104 [vA 55, vI m, vU] [] Z := by
          intro f9
          induction f9 with
          | zero => intro m Z _ _ _ hm; exact absurd hm (Nat.not_lt_zero _)
          | succ f9 ih_104 =>
            intro m Z hm1 hs2 hLL hm
            refine j_il1 hX dX12_steps_104 ?_
            refine j_al0 hX dX12_steps_105 rfl ?_
            refine j_getI hX hG fl_X12_142 (Or.inl rfl) (by decide) dX12_steps_106 ?_
            refine j_eqS (st' := [vI (V 55 5), vI m]) (by rw [hs2 55 5 (by decide), hs 55 5 (by decide)]) ?_
            refine j_icmp_ge (tgt := 130) hX dX12_steps_109 (by decide) (fun h_109 => ?_) (fun h_109 => ?_)
            · skip
              exact j_ret hR dX12_steps_130 ⟨fun k' k0 k1 => hLL k' k0 (by omega), fr_t (fr_w hs (by decide)) (fr_w hs2 (by decide))⟩
            · skip
              refine j_al0 hX dX12_steps_112 rfl ?_
              refine j_getR (q := 59) hX hG fl_X12_19 rfl rfl (by decide) dX12_steps_113 ?_
              refine j_il1 hX dX12_steps_116 ?_
              refine j_al0 hX dX12_steps_117 rfl ?_
              refine j_getR (q := 84) hX hG fl_X12_101 rfl rfl (by decide) dX12_steps_118 ?_
              refine j_il1 hX dX12_steps_121 ?_
              refine j_iald (n := 16) hX hG (by decide) (by omega) dX12_steps_122 ?_
              refine j_iast (n := 16) hX hG (by decide) (by omega) dX12_steps_123 ?_
              refine j_inc1 hX dX12_steps_124 rfl (by omega) ?_
              refine j_goto (tgt := 104) hX dX12_steps_127 (by decide) ?_
              exact ih_104 _ _ (by omega) (fr_u hs2 (by decide)) (lt_stepI (fun j j0 j1 => by rw [up_n _ (by omega)]; exact hLL j j0 j1) (by rw [up_s, hs2 84 _ (by decide)]; exact hTT _ (by omega) (by omega))) (by omega)
        exact lp_104 _ _ _ (by omega) fr_0 (fun j j0 j1 => by omega) (Nat.lt_succ_self _)
      · skip
        have w1 : W 55 1 = V 55 1 := hs 55 1 (by decide)
        have w2 : W 55 2 = V 55 2 := hs 55 2 (by decide)
        have w5 : W 55 5 = V 55 5 := hs 55 5 (by decide)
        have w58 : W 58 = V 58 := funext fun b => hs 58 b (by decide)
        have w59 : W 59 = V 59 := funext fun b => hs 59 b (by decide)
        have hm9 := md_b (k + 1) (n := V 55 5) (by omega)
        have hm8 := md_b (k + V 55 5 - 1) (n := V 55 5) (by omega)
        have r0 := hrn k hk.1 (by omega)
        have r1 := hrn _ hm9.1 hm9.2
        have r2 := hrn _ hm8.1 hm8.2
        have p1 := m66 5 (a := V 55 1) (b := V 59 k) (by omega) (by omega)
        have p2 := m66 5 (a := V 55 1) (b := V 59 ((k + V 55 5 - 1) % V 55 5)) (by omega) (by omega)
        have p3 := m66 35 (a := V 55 1) (b := V 55 1 * V 59 ((k + V 55 5 - 1) % V 55 5) + V 59 k) (by omega) (by omega)
        refine j_al0 hX dX12_steps_10 rfl ?_
        refine j_getR (q := 59) hX hG fl_X12_19 rfl rfl (by decide) dX12_steps_11 ?_
        refine j_il1 hX dX12_steps_14 ?_
        refine j_iconst hX dX12_steps_15 ⟨by decide, by decide⟩ ?_
        refine j_iadd hX dX12_steps_16 (by omega) ?_
        refine j_al0 hX dX12_steps_17 rfl ?_
        refine j_getI hX hG fl_X12_142 (Or.inl rfl) (by decide) dX12_steps_18 ?_
        refine j_eqS (st' := [vI (V 55 5), vI (k + 1), vA 59]) (by rw [w5]) ?_
        refine j_irem hX dX12_steps_21 (by omega) (by omega) ?_
        refine j_iald (n := 16) hX hG (by decide) (by omega) dX12_steps_22 ?_
        refine j_eqS (st' := [vI (V 59 ((k + 1) % V 55 5))]) (by rw [w59]) ?_
        refine j_is2 hX dX12_steps_23 rfl ?_
        refine j_al0 hX dX12_steps_24 rfl ?_
        refine j_getR (q := 84) hX hG fl_X12_101 rfl rfl (by decide) dX12_steps_25 ?_
        refine j_il1 hX dX12_steps_28 ?_
        refine j_al0 hX dX12_steps_29 rfl ?_
        refine j_getR (q := 58) hX hG fl_X12_16 rfl rfl (by decide) dX12_steps_30 ?_
        refine j_al0 hX dX12_steps_33 rfl ?_
        refine j_getI hX hG fl_X12_139 (Or.inl rfl) (by decide) dX12_steps_34 ?_
        refine j_iconst hX dX12_steps_37 ⟨by decide, by decide⟩ ?_
        refine j_eqS (st' := [vI 2, vI (V 55 2), vA 58, vI k, vA 84]) (by rw [w2]) ?_
        refine j_icmp_ne (tgt := 57) hX dX12_steps_38 (by decide) (fun h_38 => ?_) (fun h_38 => ?_)
        · skip
          refine j_al0 hX dX12_steps_57 rfl ?_
          refine j_getI hX hG fl_X12_136 (Or.inl rfl) (by decide) dX12_steps_58 ?_
          refine j_al0 hX dX12_steps_61 rfl ?_
          refine j_getI hX hG fl_X12_136 (Or.inl rfl) (by decide) dX12_steps_62 ?_
          refine j_al0 hX dX12_steps_65 rfl ?_
          refine j_getR (q := 59) hX hG fl_X12_19 rfl rfl (by decide) dX12_steps_66 ?_
          refine j_il1 hX dX12_steps_69 ?_
          refine j_al0 hX dX12_steps_70 rfl ?_
          refine j_getI hX hG fl_X12_142 (Or.inl rfl) (by decide) dX12_steps_71 ?_
          refine j_eqS (st' := [vI (V 55 5), vI k, vA 59, vI (V 55 1), vI (V 55 1), vA 58, vI k, vA 84]) (by rw [w1, w5]) ?_
          refine j_iadd hX dX12_steps_74 (by omega) ?_
          refine j_iconst hX dX12_steps_75 ⟨by decide, by decide⟩ ?_
          refine j_isub hX dX12_steps_76 (by omega) ?_
          refine j_al0 hX dX12_steps_77 rfl ?_
          refine j_getI hX hG fl_X12_142 (Or.inl rfl) (by decide) dX12_steps_78 ?_
          refine j_eqS (st' := [vI (V 55 5), vI (k + V 55 5 - 1), vA 59, vI (V 55 1), vI (V 55 1), vA 58, vI k, vA 84]) (by rw [w5]) ?_
          refine j_irem hX dX12_steps_81 (by omega) (by omega) ?_
          refine j_iald (n := 16) hX hG (by decide) (by omega) dX12_steps_82 ?_
          refine j_eqS (st' := [vI (V 59 ((k + V 55 5 - 1) % V 55 5)), vI (V 55 1), vI (V 55 1), vA 58, vI k, vA 84]) (by rw [w59]) ?_
          refine j_imul hX dX12_steps_83 (by omega) ?_
          refine j_al0 hX dX12_steps_84 rfl ?_
          refine j_getR (q := 59) hX hG fl_X12_19 rfl rfl (by decide) dX12_steps_85 ?_
          refine j_il1 hX dX12_steps_88 ?_
          refine j_iald (n := 16) hX hG (by decide) (by omega) dX12_steps_89 ?_
          refine j_eqS (st' := [vI (V 59 k), vI (V 55 1 * V 59 ((k + V 55 5 - 1) % V 55 5)), vI (V 55 1), vA 58, vI k, vA 84]) (by rw [w59]) ?_
          refine j_iadd hX dX12_steps_90 (by omega) ?_
          refine j_imul hX dX12_steps_91 (by omega) ?_
          refine j_il2 hX dX12_steps_92 ?_
          refine j_iadd hX dX12_steps_93 (by omega) ?_
          refine j_iald (n := 216) hX hG (by decide) (by omega) dX12_steps_94 ?_
          refine j_eqS (st' := [vI (stepF (V 58) (V 55 1) (V 55 2) (V 55 5) (V 59) k), vI k, vA 84]) (by rw [stm_e hb9.2.1 (by omega) hk.1 (by omega), w58]; first | rw [if_pos (by omega)] | rw [if_neg (by omega)]) ?_
          refine j_iast (n := 16) hX hG (by decide) (by omega) dX12_steps_95 ?_
          refine j_inc1 hX dX12_steps_96 rfl (by omega) ?_
          refine j_goto (tgt := 2) hX dX12_steps_99 (by decide) ?_
          refine j_fg2 ?_
          exact ih_2 _ _ (by omega) (fr_u hs (by decide)) (lt_stepI (fun j j0 j1 => by rw [up_n _ (by omega)]; exact hTT j j0 j1) (up_s ..)) (by omega)
        · skip
          refine j_al0 hX dX12_steps_41 rfl ?_
          refine j_getI hX hG fl_X12_136 (Or.inl rfl) (by decide) dX12_steps_42 ?_
          refine j_al0 hX dX12_steps_45 rfl ?_
          refine j_getR (q := 59) hX hG fl_X12_19 rfl rfl (by decide) dX12_steps_46 ?_
          refine j_il1 hX dX12_steps_49 ?_
          refine j_iald (n := 16) hX hG (by decide) (by omega) dX12_steps_50 ?_
          refine j_eqS (st' := [vI (V 59 k), vI (V 55 1), vA 58, vI k, vA 84]) (by rw [w1, w59]) ?_
          refine j_imul hX dX12_steps_51 (by omega) ?_
          refine j_il2 hX dX12_steps_52 ?_
          refine j_iadd hX dX12_steps_53 (by omega) ?_
          refine j_goto (tgt := 94) hX dX12_steps_54 (by decide) ?_
          refine j_iald (n := 216) hX hG (by decide) (by omega) dX12_steps_94 ?_
          refine j_eqS (st' := [vI (stepF (V 58) (V 55 1) (V 55 2) (V 55 5) (V 59) k), vI k, vA 84]) (by rw [stm_e hb9.2.1 (by omega) hk.1 (by omega), w58]; first | rw [if_pos (by omega)] | rw [if_neg (by omega)]) ?_
          refine j_iast (n := 16) hX hG (by decide) (by omega) dX12_steps_95 ?_
          refine j_inc1 hX dX12_steps_96 rfl (by omega) ?_
          refine j_goto (tgt := 2) hX dX12_steps_99 (by decide) ?_
          refine j_fg2 ?_
          exact ih_2 _ _ (by omega) (fr_u hs (by decide)) (lt_stepI (fun j j0 j1 => by rw [up_n _ (by omega)]; exact hTT j j0 j1) (up_s ..)) (by omega)
  exact lp_2 _ _ _ (by omega) fr_0 (fun j j0 j1 => by omega) (Nat.lt_succ_self _)
set_option maxHeartbeats 4000000 in
theorem ok_X12_others {V : VV} (hnm : 1 ≤ V 55 5 ∧ V 55 5 ≤ 16) (hpm : 1 ≤ V 55 21 ∧ V 55 21 ≤ 10) : Ok NA yX12_others cX12_others 3 (some .int) 0 0 [vA 55] V (pI (fun x9 V' => x9 = cntI (fun k => V 59 k != V 67 (234 * V 55 21 - 234 + 216 + k)) (V 55 5).toNat ∧ V' = V)) := by
  refine Ok.intro (by decide +kernel) (Nat.le_of_ble_eq_true rfl) (fun X G hX hG hR hoa hoV => ?_)
  show J X G 0 [vA 55, vU, vU] [] V
  refine j_iconst hX dX12_others_0 ⟨by decide, by decide⟩ ?_
  refine j_is1 hX dX12_others_1 rfl ?_
  refine j_iconst hX dX12_others_2 ⟨by decide, by decide⟩ ?_
  refine j_is2 hX dX12_others_3 rfl ?_
  have lp_4 : ∀ (f9 : Nat) (c k : Int), (0 ≤ k ∧ k ≤ V 55 5) → (c = cntI (fun k => V 59 k != V 67 (234 * V 55 21 - 234 + 216 + k)) k.toNat) → ((V 55 5 - k).toNat) < f9 → J X G 4 [vA 55, vI c, vI k] [] V := by
    intro f9
    induction f9 with
    | zero => intro c k _ _ hm; exact absurd hm (Nat.not_lt_zero _)
    | succ f9 ih_4 =>
      intro c k hk hc hm
      refine j_il2 hX dX12_others_4 ?_
      refine j_al0 hX dX12_others_5 rfl ?_
      refine j_getI hX hG fl_X12_142 (Or.inl rfl) (by decide) dX12_others_6 ?_
      refine j_icmp_ge (tgt := 58) hX dX12_others_9 (by decide) (fun h_9 => ?_) (fun h_9 => ?_)
      · skip
        refine j_il1 hX dX12_others_58 ?_
        exact j_retI hR dX12_others_59 ⟨by rw [hc, show k = V 55 5 by omega], rfl⟩
      · skip
        have hcb := cntI_b (fun k => V 59 k != V 67 (234 * V 55 21 - 234 + 216 + k)) k.toNat
        refine j_il1 hX dX12_others_12 ?_
        refine j_al0 hX dX12_others_13 rfl ?_
        refine j_getR (q := 59) hX hG fl_X12_19 rfl rfl (by decide) dX12_others_14 ?_
        refine j_il2 hX dX12_others_17 ?_
        refine j_iald (n := 16) hX hG (by decide) (by omega) dX12_others_18 ?_
        refine j_al0 hX dX12_others_19 rfl ?_
        refine j_getR (q := 67) hX hG fl_X12_44 rfl rfl (by decide) dX12_others_20 ?_
        refine j_sipush hX dX12_others_23 (by decide) ⟨by decide, by decide⟩ ?_
        refine j_al0 hX dX12_others_26 rfl ?_
        refine j_getI hX hG fl_X12_155 (Or.inl rfl) (by decide) dX12_others_27 ?_
        refine j_imul hX dX12_others_30 (by omega) ?_
        refine j_sipush hX dX12_others_31 (by decide) ⟨by decide, by decide⟩ ?_
        refine j_isub hX dX12_others_34 (by omega) ?_
        refine j_sipush hX dX12_others_35 (by decide) ⟨by decide, by decide⟩ ?_
        refine j_iadd hX dX12_others_38 (by omega) ?_
        refine j_il2 hX dX12_others_39 ?_
        refine j_iadd hX dX12_others_40 (by omega) ?_
        refine j_iald (n := 2340) hX hG (by decide) (by omega) dX12_others_41 ?_
        refine j_icmp_eq (tgt := 49) hX dX12_others_42 (by decide) (fun h_42 => ?_) (fun h_42 => ?_)
        · skip
          refine j_iconst hX dX12_others_49 ⟨by decide, by decide⟩ ?_
          refine j_iadd hX dX12_others_50 (by omega) ?_
          refine j_is1 hX dX12_others_51 rfl ?_
          refine j_inc2 hX dX12_others_52 rfl (by omega) ?_
          refine j_goto (tgt := 4) hX dX12_others_55 (by decide) ?_
          exact ih_4 _ _ (by omega) (by rw [cntI_S hk.1, ← hc]; first | rw [if_pos (by simpa using h_42)] | rw [if_neg (by simpa using h_42)]) (by omega)
        · skip
          refine j_iconst hX dX12_others_45 ⟨by decide, by decide⟩ ?_
          refine j_goto (tgt := 50) hX dX12_others_46 (by decide) ?_
          refine j_iadd hX dX12_others_50 (by omega) ?_
          refine j_is1 hX dX12_others_51 rfl ?_
          refine j_inc2 hX dX12_others_52 rfl (by omega) ?_
          refine j_goto (tgt := 4) hX dX12_others_55 (by decide) ?_
          exact ih_4 _ _ (by omega) (by rw [cntI_S hk.1, ← hc]; first | rw [if_pos (by simpa using h_42)] | rw [if_neg (by simpa using h_42)]) (by omega)
  exact lp_4 _ _ _ (by omega) rfl (Nat.lt_succ_self _)
set_option maxHeartbeats 4000000 in
theorem ok_X12_step {V : VV} {a : Int} (hmo : MO V) (htm : TRM V) (hnm : 1 ≤ V 55 5 ∧ V 55 5 ≤ 16) (hpm : 0 ≤ V 55 21 ∧ V 55 21 ≤ 10) (hrn : ∀ k, 0 ≤ k → k < V 55 5 → 0 ≤ V 59 k ∧ V 59 k < V 55 1) : Ok NA yX12_step cX12_step 3 (some .int) 1 22 [vA 55, vI a] V (pI (fun x9 V' => ((1 ≤ a ∧ a ≤ 100) ∧ x9 = cntI (fun k => V' 59 k != V 59 k) (V 55 5).toNat ∧ V' 55 0 = 0 ∧ KPS V V' ∧ (∀ k, 0 ≤ k → k < V 55 5 → V' 59 k = orbF (V 58) (V 55 1) (V 55 2) (V 55 5) (V 59) a.toNat k) ∧ (∀ b, b ≠ 0 → b ≠ 21 → V' 55 b = V 55 b) ∧ ∀ a b, a ≠ 55 → a ≠ 67 → a ≠ 59 → a ≠ 84 → V' a b = V a b) ∨ (¬ (1 ≤ a ∧ a ≤ 100) ∧ x9 = 0 ∧ V' = up (up V 55 0 0) 55 0 1))) := by
  refine Ok.intro (by decide +kernel) (Nat.le_of_ble_eq_true rfl) (fun X G hX hG hR hoa hoV => ?_)
  show J X G 0 [vA 55, vI a, vU] [] V
  have hb9 := hmo.b
  refine j_al0 hX dX12_step_0 rfl ?_
  refine j_iconst hX dX12_step_1 ⟨by decide, by decide⟩ ?_
  refine j_putI hX hG fp_X12_126 rfl (by decide) dX12_step_2 ?_
  obtain ⟨U, hU⟩ : ∃ U, U = up V 55 0 0 := ⟨_, rfl⟩
  rw [← hU]
  have u0 : U 55 0 = 0 := by rw [hU]; exact up_s ..
  have uF : ∀ b, b ≠ 0 → U 55 b = V 55 b := fun b hb => by rw [hU]; exact up_n _ (fun q => hb q.2)
  have uC : ∀ a b, a ≠ 55 → U a b = V a b := fun a b ha => by rw [hU]; exact up_n _ (fun q => ha q.1)
  have moU : MO U := hmo.t uF
  have u1 := uF 1 (by decide)
  have u5 := uF 5 (by decide)
  have u21 := uF 21 (by decide)
  have u2 := uF 2 (by decide)
  refine j_al0 hX dX12_step_5 rfl ?_
  refine j_il1 hX dX12_step_6 ?_
  refine j_iconst hX dX12_step_7 ⟨by decide, by decide⟩ ?_
  refine j_bipush hX dX12_step_8 (by decide) ⟨by decide, by decide⟩ ?_
  refine j_pSI3 hX hG lk_X12_172 (ok_X12_isIn ) (Nat.le_of_ble_eq_true rfl) (Nat.le_of_ble_eq_true rfl) (Nat.le_of_ble_eq_true rfl) rfl dX12_step_10 ?_
  refine j_iconst hX dX12_step_13 ⟨by decide, by decide⟩ ?_
  refine j_cVI2 (ci := 12) hX hG lk_X12_168 (ok_X12_may u0 (by decide)) (by decide) rfl (Nat.le_of_ble_eq_true rfl) (Nat.le_of_ble_eq_true rfl) (Nat.le_of_ble_eq_true rfl) rfl dX12_step_14 (fun x_14 V_14 h_14 => ?_)
  skip
  refine j_if_ne (tgt := 22) hX dX12_step_17 (by decide) (fun h_17 => ?_) (fun h_17 => ?_)
  · skip
    obtain ⟨c_14, -, w_14⟩ := h_14.elim id (fun q => absurd q.2.1 (by omega))
    have w2_14 := w_14.symm
    subst w2_14
    have c9 : 1 ≤ a ∧ a ≤ 100 := Classical.byContradiction fun y => c_14 (if_neg y)
    refine j_al0 hX dX12_step_22 rfl ?_
    refine j_cVV0 (ci := 12) hX hG lk_X12_328 (ok_X12_keeps moU (by omega) (by omega)) (by decide) rfl (Nat.le_of_ble_eq_true rfl) (Nat.le_of_ble_eq_true rfl) (Nat.le_of_ble_eq_true rfl) rfl dX12_step_23 (fun V_23 h_23 => ?_)
    obtain ⟨k_23, f_23⟩ := h_23
    have K := k_23.c uF uC
    refine j_iconst hX dX12_step_26 ⟨by decide, by decide⟩ ?_
    refine j_is2 hX dX12_step_27 rfl ?_
    have lp_28 : ∀ (f9 : Nat) (t : Int) (W : VV), (0 ≤ t ∧ t ≤ a) → (fr [59, 84] V_23 W) → (∀ k, 0 ≤ k → k < V 55 5 → W 59 k = orbF (V 58) (V 55 1) (V 55 2) (V 55 5) (V 59) t.toNat k) → ((a - t).toNat) < f9 → J X G 28 [vA 55, vI a, vI t] [] W := by
      intro f9
      induction f9 with
      | zero => intro t W _ _ _ hm; exact absurd hm (Nat.not_lt_zero _)
      | succ f9 ih_28 =>
        intro t W hk hs hTT hm
        refine j_il2 hX dX12_step_28 ?_
        refine j_il1 hX dX12_step_29 ?_
        refine j_icmp_ge (tgt := 43) hX dX12_step_30 (by decide) (fun h_30 => ?_) (fun h_30 => ?_)
        · skip
          have w5 : W 55 5 = V 55 5 := (hs 55 5 (by decide)).trans ((f_23.1 5 (by decide)).trans u5)
          have w21 : W 55 21 = kpP V + 1 := (hs 55 21 (by decide)).trans K.1
          have kb := kp_b hpm
          refine j_al0 hX dX12_step_43 rfl ?_
          refine j_pVI0 (ci := 12) hX hG lk_X12_433 (ok_X12_others (by omega) (by omega)) (by decide) rfl (Nat.le_of_ble_eq_true rfl) (Nat.le_of_ble_eq_true rfl) (Nat.le_of_ble_eq_true rfl) rfl dX12_step_44 ?_
          exact j_retI hR dX12_step_47 (by
      have zz : ∀ a b, a ≠ 84 → a ≠ 59 → W a b = V_23 a b := fun a b h1 h2 => hs a b (by simp; omega)
      refine Or.inl ⟨c9, ?_, (zz 55 0 (by decide) (by decide)).trans ((f_23.1 0 (by decide)).trans u0), K.d2 (zz 55 21 (by decide) (by decide)) (fun b => zz 67 b (by decide) (by decide)), fun k' k0 k1 => by rw [hTT k' k0 k1, show t = a by omega], fun b b0 b1 => (zz 55 b (by decide) (by decide)).trans ((f_23.1 b b1).trans (uF b b0)), fun a b a0 a1 a2 a3 => (zz a b a3 a2).trans ((f_23.2 a b a0 a1).trans (uC a b a0))⟩
      rw [w5]
      refine cntI_c _ fun k k0 k1 => ?_
      rw [w21, show 234 * (kpP V + 1) - 234 + 216 + k = 234 * kpP V + 216 + k by omega, zz 67 _ (by decide) (by decide), K.2.2.2.1 k k0 (by omega)])
        · skip
          have w58 : W 58 = V 58 := funext fun b => (hs 58 b (by decide)).trans ((f_23.2 58 b (by decide) (by decide)).trans (uC 58 b (by decide)))
          have wF : ∀ b, b ≠ 0 → b ≠ 21 → W 55 b = V 55 b := fun b b0 b1 => (hs 55 b (by decide)).trans ((f_23.1 b b1).trans (uF b b0))
          have w1 := wF 1 (by decide) (by decide)
          have w2 := wF 2 (by decide) (by decide)
          have w5 := wF 5 (by decide) (by decide)
          have moW : MO W := by unfold MO; rw [w1, w2, wF 3 (by decide) (by decide), wF 4 (by decide) (by decide)]; exact hmo
          refine j_al0 hX dX12_step_33 rfl ?_
          refine j_cVV0 (ci := 12) hX hG lk_X12_430 (ok_X12_steps moW (by omega) (fun k k0 k1 => by rw [w5] at k1; rw [hTT k k0 k1, w1]; exact orbF_b (V := mvw V) (r := 15) hmo htm (by omega) hrn t.toNat k k0 k1)) (by decide) rfl (Nat.le_of_ble_eq_true rfl) (Nat.le_of_ble_eq_true rfl) (Nat.le_of_ble_eq_true rfl) rfl dX12_step_34 (fun V_34 h_34 => ?_)
          obtain ⟨e_34, f_34⟩ := h_34
          rw [w58, w1, w2, w5] at e_34
          refine j_inc2 hX dX12_step_37 rfl (by omega) ?_
          refine j_goto (tgt := 28) hX dX12_step_40 (by decide) ?_
          exact ih_28 _ _ (by omega) (fr_t hs f_34) (fun k k0 k1 => by rw [e_34 k k0 k1, show (t + 1).toNat = t.toNat + 1 by omega]; show _ = stepF (V 58) (V 55 1) (V 55 2) (V 55 5) (orbF (V 58) (V 55 1) (V 55 2) (V 55 5) (V 59) t.toNat) k; exact stepF_c (by omega) hTT k0 k1) (by omega)
    exact lp_28 _ _ _ (by omega) fr_0 (fun k k0 k1 => (f_23.2 59 k (by decide) (by decide)).trans (uC 59 k (by decide))) (Nat.lt_succ_self _)
  · skip
    obtain ⟨c_14, -, w_14⟩ := h_14.elim (fun q => absurd q.2.1 (by omega)) id
    refine j_iconst hX dX12_step_20 ⟨by decide, by decide⟩ ?_
    exact j_retI hR dX12_step_21 (Or.inr ⟨fun y => by rw [if_pos y] at c_14; exact absurd c_14 (by decide), rfl, by rw [w_14, hU]⟩)
