/-! append once more, with the bytes behind the new ones; its case of the law -/
def apT (V W : VV) (A : Int → Int) (k : Int) : Prop := apK V W A k ∧ ∀ b, V 2 1 + 4 * k ≤ b → W 3 b = V 3 b
theorem apT_0 (V : VV) (A : Int → Int) : apT V V A 0 := ⟨apK_0 V A, fun _ _ => rfl⟩
theorem apT_S {V W Z : VV} {A : Int → Int} {k x : Int} (h : apT V W A k) (hk : 0 ≤ k) (hx : A k = x) (h1 : Z 2 1 = W 2 1 + 4) (h2 : ∀ j, 0 ≤ j → j < 4 → Z 3 (W 2 1 + j) = byteF x j) (h3 : ∀ b, b < W 2 1 ∨ W 2 1 + 4 ≤ b → Z 3 b = W 3 b) (h4 : ∀ a b, a ≠ 3 → ¬ (a = 2 ∧ b = 1) → Z a b = W a b) : apT V Z A (k + 1) := by
  refine ⟨apK_S h.1 hk hx h1 h2 h3 h4, fun b hb => ?_⟩
  have := h.1.1
  rw [h3 b (Or.inr (by omega))]
  exact h.2 b (by omega)
set_option maxHeartbeats 4000000 in
theorem ok_X11_append_T {V : VV} {a b c d e : Int} (htb : TB V) : OkX yX11_append cX11_append 6 (some .int) 8 130 [vA 0, vI a, vI b, vI c, vI d, vI e] V (pI (fun x9 V' => x9 = V 2 1 + 20 ∧ V 2 1 ≤ 480 ∧ apT V V' (a5 a b c d e) 5)) (fun E V' => (E = exS ∧ (480 < V 2 1) ∧ V' = V)) := by
  refine OkX.intro (by decide +kernel) (Nat.le_of_ble_eq_true rfl) (fun X G hX hG hR hT hoa hoV => ?_)
  show J X G 0 [vA 0, vI a, vI b, vI c, vI d, vI e] [] V
  have hb9 := htb.1
  have hb8 := htb.2.1
  have k_0 := apT_0 V (a5 a b c d e)
  refine j_al0 hX dX11_append_0 rfl ?_
  refine j_getR (q := 1) hX hG fl_X11_10 rfl rfl (by decide) dX11_append_1 ?_
  refine j_getR (q := 2) hX hG fl_X11_108 rfl rfl (by decide) dX11_append_4 ?_
  refine j_getI hX hG fl_X11_112 (Or.inl rfl) (by decide) dX11_append_7 ?_
  refine j_bipush hX dX11_append_10 (by decide) ⟨by decide, by decide⟩ ?_
  refine j_iadd hX dX11_append_12 (by omega) ?_
  refine j_sipush hX dX11_append_13 (by decide) ⟨by decide, by decide⟩ ?_
  refine j_icmp_le (tgt := 29) hX dX11_append_16 (by decide) (fun h_16 => ?_) (fun h_16 => ?_)
  · skip
    refine j_al0 hX dX11_append_29 rfl ?_
    refine j_getR (q := 1) hX hG fl_X11_10 rfl rfl (by decide) dX11_append_30 ?_
    refine j_getR (q := 2) hX hG fl_X11_108 rfl rfl (by decide) dX11_append_33 ?_
    refine j_il1 hX dX11_append_36 ?_
    refine j_cVV1 (ci := 9) hX (gNC hG) lk_X11_125 (ok_X9_addFour (by omega)) (by decide) rfl (Nat.le_of_ble_eq_true rfl) (Nat.le_of_ble_eq_true rfl) (Nat.le_of_ble_eq_true rfl) rfl dX11_append_37 (fun V_37 h_37 => ?_)
    obtain ⟨x1, x2, x3, x4⟩ := h_37
    have k_1 := apT_S k_0 (by decide) rfl x1 x2 x3 x4
    clear x1 x2 x3 x4
    dsimp only [Int.reduceAdd] at k_1
    refine j_al0 hX dX11_append_40 rfl ?_
    refine j_getR (q := 1) hX hG fl_X11_10 rfl rfl (by decide) dX11_append_41 ?_
    refine j_getR (q := 2) hX hG fl_X11_108 rfl rfl (by decide) dX11_append_44 ?_
    refine j_il2 hX dX11_append_47 ?_
    refine j_cVV1 (ci := 9) hX (gNC hG) lk_X11_125 (ok_X9_addFour (by have := k_1.1.1; omega)) (by decide) rfl (Nat.le_of_ble_eq_true rfl) (Nat.le_of_ble_eq_true rfl) (Nat.le_of_ble_eq_true rfl) rfl dX11_append_48 (fun V_48 h_48 => ?_)
    obtain ⟨x1, x2, x3, x4⟩ := h_48
    have k_2 := apT_S k_1 (by decide) rfl x1 x2 x3 x4
    clear x1 x2 x3 x4
    dsimp only [Int.reduceAdd] at k_2
    refine j_al0 hX dX11_append_51 rfl ?_
    refine j_getR (q := 1) hX hG fl_X11_10 rfl rfl (by decide) dX11_append_52 ?_
    refine j_getR (q := 2) hX hG fl_X11_108 rfl rfl (by decide) dX11_append_55 ?_
    refine j_il3 hX dX11_append_58 ?_
    refine j_cVV1 (ci := 9) hX (gNC hG) lk_X11_125 (ok_X9_addFour (by have := k_2.1.1; omega)) (by decide) rfl (Nat.le_of_ble_eq_true rfl) (Nat.le_of_ble_eq_true rfl) (Nat.le_of_ble_eq_true rfl) rfl dX11_append_59 (fun V_59 h_59 => ?_)
    obtain ⟨x1, x2, x3, x4⟩ := h_59
    have k_3 := apT_S k_2 (by decide) rfl x1 x2 x3 x4
    clear x1 x2 x3 x4
    dsimp only [Int.reduceAdd] at k_3
    refine j_al0 hX dX11_append_62 rfl ?_
    refine j_getR (q := 1) hX hG fl_X11_10 rfl rfl (by decide) dX11_append_63 ?_
    refine j_getR (q := 2) hX hG fl_X11_108 rfl rfl (by decide) dX11_append_66 ?_
    refine j_il4 hX dX11_append_69 ?_
    refine j_cVV1 (ci := 9) hX (gNC hG) lk_X11_125 (ok_X9_addFour (by have := k_3.1.1; omega)) (by decide) rfl (Nat.le_of_ble_eq_true rfl) (Nat.le_of_ble_eq_true rfl) (Nat.le_of_ble_eq_true rfl) rfl dX11_append_71 (fun V_71 h_71 => ?_)
    obtain ⟨x1, x2, x3, x4⟩ := h_71
    have k_4 := apT_S k_3 (by decide) rfl x1 x2 x3 x4
    clear x1 x2 x3 x4
    dsimp only [Int.reduceAdd] at k_4
    refine j_al0 hX dX11_append_74 rfl ?_
    refine j_getR (q := 1) hX hG fl_X11_10 rfl rfl (by decide) dX11_append_75 ?_
    refine j_getR (q := 2) hX hG fl_X11_108 rfl rfl (by decide) dX11_append_78 ?_
    refine j_il5 hX dX11_append_81 ?_
    refine j_cVV1 (ci := 9) hX (gNC hG) lk_X11_125 (ok_X9_addFour (by have := k_4.1.1; omega)) (by decide) rfl (Nat.le_of_ble_eq_true rfl) (Nat.le_of_ble_eq_true rfl) (Nat.le_of_ble_eq_true rfl) rfl dX11_append_83 (fun V_83 h_83 => ?_)
    obtain ⟨x1, x2, x3, x4⟩ := h_83
    have k_5 := apT_S k_4 (by decide) rfl x1 x2 x3 x4
    clear x1 x2 x3 x4
    dsimp only [Int.reduceAdd] at k_5
    refine j_al0 hX dX11_append_86 rfl ?_
    refine j_getR (q := 1) hX hG fl_X11_10 rfl rfl (by decide) dX11_append_87 ?_
    refine j_getR (q := 2) hX hG fl_X11_108 rfl rfl (by decide) dX11_append_90 ?_
    refine j_getI hX hG fl_X11_112 (Or.inl rfl) (by decide) dX11_append_93 ?_
    exact j_retI hR dX11_append_96 ⟨by have := k_5.1.1; omega, by omega, k_5⟩
  · skip
    exact j_throw (text := "the text would be too long") hX hT th_118 (by decide +kernel) dX11_append_19 dX11_append_22 dX11_append_23 dX11_append_25 dX11_append_28 (by decide) (Nat.le_of_ble_eq_true rfl) rfl (by first | rfl | assumption | omega | exact ⟨rfl, rfl⟩ | exact ⟨rfl, by omega, rfl⟩)
set_option maxHeartbeats 4000000 in
theorem ok_X12_append_T {V : VV} {a b c d e : Int} (ht : 0 ≤ V 55 23 ∧ V 55 23 ≤ 500) : Ok NA yX12_append cX12_append 8 (some .int) 1 22 [vA 55, vI a, vI b, vI c, vI d, vI e] V (pI (fun x9 V' => (V 55 23 ≤ 480 ∧ x9 = V 55 23 + 20 ∧ V' 55 0 = 0 ∧ V' 55 23 = V 55 23 + 20 ∧ (∀ z, z ≠ 0 → z ≠ 23 → V' 55 z = V 55 z) ∧ (∀ j, 0 ≤ j → j < 20 → V' 68 (V 55 23 + j) = byteF (a5 a b c d e (j / 4)) (j % 4)) ∧ (∀ z, z < V 55 23 ∨ V 55 23 + 20 ≤ z → V' 68 z = V 68 z) ∧ fr [55, 68] V V') ∨ (480 < V 55 23 ∧ x9 = 0 ∧ V' = up (up V 55 0 0) 55 0 1))) := by
  refine Ok.intro (by decide +kernel) (Nat.le_of_ble_eq_true rfl) (fun X G hX hG hR hoa hoV => ?_)
  show J X G 0 [vA 55, vI a, vI b, vI c, vI d, vI e, vU, vU] [] V
  refine j_al0 hX dX12_append_0 rfl ?_
  refine j_iconst hX dX12_append_1 ⟨by decide, by decide⟩ ?_
  refine j_putI hX hG fp_X12_126 rfl (by decide) dX12_append_2 ?_
  obtain ⟨U, hU⟩ : ∃ U, U = up V 55 0 0 := ⟨_, rfl⟩
  rw [← hU]
  have u0 : U 55 0 = 0 := by rw [hU]; exact up_s ..
  have uF : ∀ b, b ≠ 0 → U 55 b = V 55 b := fun b hb => by rw [hU]; exact up_n _ (fun q => hb q.2)
  have uC : ∀ a b, a ≠ 55 → U a b = V a b := fun a b ha => by rw [hU]; exact up_n _ (fun q => ha q.1)
  have u23 := uF 23 (by decide)
  have jn_24 : ∀ (s : Int), (s = if V 55 23 ≤ 480 then 1 else 0) → J X G 24 [vA 55, vI a, vI b, vI c, vI d, vI e, vU, vU] [vI s, vA 55] U := by
    intro s hs9
    refine j_iconst hX dX12_append_24 ⟨by decide, by decide⟩ ?_
    refine j_cVI2 (ci := 12) hX hG lk_X12_168 (ok_X12_may u0 (by decide)) (by decide) rfl (Nat.le_of_ble_eq_true rfl) (Nat.le_of_ble_eq_true rfl) (Nat.le_of_ble_eq_true rfl) rfl dX12_append_25 (fun x_25 V_25 h_25 => ?_)
    skip
    refine j_if_ne (tgt := 33) hX dX12_append_28 (by decide) (fun h_28 => ?_) (fun h_28 => ?_)
    · skip
      obtain ⟨c_25, -, w_25⟩ := h_25.elim id (fun q => absurd q.2.1 (by omega))
      have w2_25 := w_25.symm
      subst w2_25
      have c9 : V 55 23 ≤ 480 := Classical.byContradiction fun z => c_25 (by rw [hs9, if_neg z])
      refine j_iconst hX dX12_append_33 ⟨by decide, by decide⟩ ?_
      refine j_is6 hX dX12_append_34 rfl ?_
      have lp_36 : ∀ (f9 : Nat) (k : Int) (W : VV), (0 ≤ k ∧ k ≤ 20) → (fr [68] U W) → (∀ j, 0 ≤ j → j < k → W 68 (V 55 23 + j) = byteF (a5 a b c d e (j / 4)) (j % 4)) → (∀ z, z < V 55 23 ∨ V 55 23 + 20 ≤ z → W 68 z = V 68 z) → ((20 - k).toNat) < f9 → J X G 36 [vA 55, vI a, vI b, vI c, vI d, vI e, vI k, vU] [] W := by
        intro f9
        induction f9 with
        | zero => intro k W _ _ _ _ hm; exact absurd hm (Nat.not_lt_zero _)
        | succ f9 ih_36 =>
          intro k W hk hs hTT hLL hm
          refine j_il6 hX dX12_append_36 ?_
          refine j_bipush hX dX12_append_38 (by decide) ⟨by decide, by decide⟩ ?_
          refine j_icmp_ge (tgt := 126) hX dX12_append_40 (by decide) (fun h_40 => ?_) (fun h_40 => ?_)
          · skip
            have w23 : W 55 23 = V 55 23 := (hs 55 23 (by decide)).trans u23
            refine j_al0 hX dX12_append_126 rfl ?_
            refine j_dup hX dX12_append_127 rfl ?_
            refine j_getI hX hG fl_X12_165 (Or.inl rfl) (by decide) dX12_append_128 ?_
            refine j_bipush hX dX12_append_131 (by decide) ⟨by decide, by decide⟩ ?_
            refine j_iadd hX dX12_append_133 (by omega) ?_
            refine j_putI hX hG fp_X12_165 rfl (by decide) dX12_append_134 ?_
            refine j_al0 hX dX12_append_137 rfl ?_
            refine j_getI hX hG fl_X12_165 (Or.inl rfl) (by decide) dX12_append_138 ?_
            exact j_retI hR dX12_append_141 (Or.inl ⟨c9, by rw [up_s, w23], by rw [up_n _ (by decide), hs 55 0 (by decide), u0], by rw [up_s, w23], fun z z0 z1 => by rw [up_n _ (fun q => z1 q.2), hs 55 z (by decide), uF z z0], fun j j0 j1 => by rw [up_n _ (by omega)]; exact hTT j j0 (by omega), fun z hz => by rw [up_n _ (by omega)]; exact hLL z hz, fr_u (fr_t (by rw [hU]; exact fr_u fr_0 (by decide)) (fr_w hs (by decide))) (by decide)⟩)
          · skip
            have w23 : W 55 23 = V 55 23 := (hs 55 23 (by decide)).trans u23
            have jn_89 : ∀ (s : Int), (s = (a5 a b c d e (k / 4))) → J X G 89 [vA 55, vI a, vI b, vI c, vI d, vI e, vI k, vU] [vI s] W := by
              intro s hs8
              refine j_is7 hX dX12_append_89 rfl ?_
              refine j_al0 hX dX12_append_91 rfl ?_
              refine j_getR (q := 68) hX hG fl_X12_47 rfl rfl (by decide) dX12_append_92 ?_
              refine j_al0 hX dX12_append_95 rfl ?_
              refine j_getI hX hG fl_X12_165 (Or.inl rfl) (by decide) dX12_append_96 ?_
              refine j_il6 hX dX12_append_99 ?_
              refine j_iadd hX dX12_append_101 (by omega) ?_
              refine j_il7 hX dX12_append_102 ?_
              refine j_bipush hX dX12_append_104 (by decide) ⟨by decide, by decide⟩ ?_
              refine j_bipush hX dX12_append_106 (by decide) ⟨by decide, by decide⟩ ?_
              refine j_il6 hX dX12_append_108 ?_
              refine j_iconst hX dX12_append_110 ⟨by decide, by decide⟩ ?_
              refine j_irem hX dX12_append_111 (by decide) (by omega) ?_
              refine j_imul hX dX12_append_112 (by omega) ?_
              refine j_isub hX dX12_append_113 (by omega) ?_
              refine j_ishr hX dX12_append_114 (by omega) ?_
              refine j_sipush hX dX12_append_115 (by decide) ⟨by decide, by decide⟩ ?_
              refine j_iand hX dX12_append_118 ?_
              refine j_iast (n := 500) hX hG (by decide) (by omega) dX12_append_119 ?_
              refine j_inc6 hX dX12_append_120 rfl (by omega) ?_
              refine j_goto (tgt := 36) hX dX12_append_123 (by decide) ?_
              refine j_fg7 ?_
              exact ih_36 _ _ (by omega) (fr_u hs (by decide)) (lt_stepI (fun j j0 j1 => by rw [w23, up_n _ (by omega)]; exact hTT j j0 j1) (by rw [w23, up_s, hs8]; exact by_eq hk.1)) (fun z hz => by rw [w23, up_n _ (by omega)]; exact hLL z hz) (by omega)
            refine j_il6 hX dX12_append_43 ?_
            refine j_iconst hX dX12_append_45 ⟨by decide, by decide⟩ ?_
            refine j_icmp_ge (tgt := 53) hX dX12_append_46 (by decide) (fun h_46 => ?_) (fun h_46 => ?_)
            · skip
              refine j_il6 hX dX12_append_53 ?_
              refine j_bipush hX dX12_append_55 (by decide) ⟨by decide, by decide⟩ ?_
              refine j_icmp_ge (tgt := 64) hX dX12_append_57 (by decide) (fun h_57 => ?_) (fun h_57 => ?_)
              · skip
                refine j_il6 hX dX12_append_64 ?_
                refine j_bipush hX dX12_append_66 (by decide) ⟨by decide, by decide⟩ ?_
                refine j_icmp_ge (tgt := 75) hX dX12_append_68 (by decide) (fun h_68 => ?_) (fun h_68 => ?_)
                · skip
                  refine j_il6 hX dX12_append_75 ?_
                  refine j_bipush hX dX12_append_77 (by decide) ⟨by decide, by decide⟩ ?_
                  refine j_icmp_ge (tgt := 87) hX dX12_append_79 (by decide) (fun h_79 => ?_) (fun h_79 => ?_)
                  · skip
                    refine j_il5 hX dX12_append_87 ?_
                    exact jn_89 _ (by unfold a5; first | exact (if_pos (by omega)).symm | (rw [if_neg (by omega)]; exact (if_pos (by omega)).symm) | (rw [if_neg (by omega), if_neg (by omega)]; exact (if_pos (by omega)).symm) | (rw [if_neg (by omega), if_neg (by omega), if_neg (by omega)]; exact (if_pos (by omega)).symm) | (rw [if_neg (by omega), if_neg (by omega), if_neg (by omega), if_neg (by omega)]))
                  · skip
                    refine j_il4 hX dX12_append_82 ?_
                    refine j_goto (tgt := 89) hX dX12_append_84 (by decide) ?_
                    exact jn_89 _ (by unfold a5; first | exact (if_pos (by omega)).symm | (rw [if_neg (by omega)]; exact (if_pos (by omega)).symm) | (rw [if_neg (by omega), if_neg (by omega)]; exact (if_pos (by omega)).symm) | (rw [if_neg (by omega), if_neg (by omega), if_neg (by omega)]; exact (if_pos (by omega)).symm) | (rw [if_neg (by omega), if_neg (by omega), if_neg (by omega), if_neg (by omega)]))
                · skip
                  refine j_il3 hX dX12_append_71 ?_
                  refine j_goto (tgt := 89) hX dX12_append_72 (by decide) ?_
                  exact jn_89 _ (by unfold a5; first | exact (if_pos (by omega)).symm | (rw [if_neg (by omega)]; exact (if_pos (by omega)).symm) | (rw [if_neg (by omega), if_neg (by omega)]; exact (if_pos (by omega)).symm) | (rw [if_neg (by omega), if_neg (by omega), if_neg (by omega)]; exact (if_pos (by omega)).symm) | (rw [if_neg (by omega), if_neg (by omega), if_neg (by omega), if_neg (by omega)]))
              · skip
                refine j_il2 hX dX12_append_60 ?_
                refine j_goto (tgt := 89) hX dX12_append_61 (by decide) ?_
                exact jn_89 _ (by unfold a5; first | exact (if_pos (by omega)).symm | (rw [if_neg (by omega)]; exact (if_pos (by omega)).symm) | (rw [if_neg (by omega), if_neg (by omega)]; exact (if_pos (by omega)).symm) | (rw [if_neg (by omega), if_neg (by omega), if_neg (by omega)]; exact (if_pos (by omega)).symm) | (rw [if_neg (by omega), if_neg (by omega), if_neg (by omega), if_neg (by omega)]))
            · skip
              refine j_il1 hX dX12_append_49 ?_
              refine j_goto (tgt := 89) hX dX12_append_50 (by decide) ?_
              exact jn_89 _ (by unfold a5; first | exact (if_pos (by omega)).symm | (rw [if_neg (by omega)]; exact (if_pos (by omega)).symm) | (rw [if_neg (by omega), if_neg (by omega)]; exact (if_pos (by omega)).symm) | (rw [if_neg (by omega), if_neg (by omega), if_neg (by omega)]; exact (if_pos (by omega)).symm) | (rw [if_neg (by omega), if_neg (by omega), if_neg (by omega), if_neg (by omega)]))
      exact lp_36 _ _ _ (by omega) fr_0 (fun j j0 j1 => by omega) (fun z hz => uC 68 z (by decide)) (Nat.lt_succ_self _)
    · skip
      obtain ⟨c_25, -, w_25⟩ := h_25.elim (fun q => absurd q.2.1 (by omega)) id
      have c9 : ¬ V 55 23 ≤ 480 := fun z => by rw [hs9, if_pos z] at c_25; cases c_25
      refine j_iconst hX dX12_append_31 ⟨by decide, by decide⟩ ?_
      exact j_retI hR dX12_append_32 (Or.inr ⟨by omega, rfl, by rw [w_25, hU]⟩)
  refine j_al0 hX dX12_append_5 rfl ?_
  refine j_al0 hX dX12_append_6 rfl ?_
  refine j_getI hX hG fl_X12_165 (Or.inl rfl) (by decide) dX12_append_7 ?_
  refine j_bipush hX dX12_append_10 (by decide) ⟨by decide, by decide⟩ ?_
  refine j_iadd hX dX12_append_12 (by omega) ?_
  refine j_sipush hX dX12_append_13 (by decide) ⟨by decide, by decide⟩ ?_
  refine j_icmp_gt (tgt := 23) hX dX12_append_16 (by decide) (fun h_16 => ?_) (fun h_16 => ?_)
  · skip
    refine j_iconst hX dX12_append_23 ⟨by decide, by decide⟩ ?_
    exact jn_24 _ (by first | exact (if_pos (by omega)).symm | exact (if_neg (by omega)).symm)
  · skip
    refine j_iconst hX dX12_append_19 ⟨by decide, by decide⟩ ?_
    refine j_goto (tgt := 24) hX dX12_append_20 (by decide) ?_
    exact jn_24 _ (by first | exact (if_pos (by omega)).symm | exact (if_neg (by omega)).symm)
set_option maxHeartbeats 2000000 in
theorem cse_0 {X : Cx} {t : Int} {V : VV} {i : Int} {c s : Nat} (hX : Good X RL cL_law 9 13 466) (hR9 : LX X) (hi : 0 ≤ i ∧ i + 5 < yLn (cY X)) (hrm : c + 1 ≤ (cR X).cells ∧ s + 6 ≤ (cR X).slots) (ht9 : 0 ≤ t ∧ t ≤ 600) (hL0 : LKS t V) (hN : ∀ V', LKS (t + 1) V' → J X (GT (c + 1) (s + 6)) 2097 (ls9 i) [] V') : J X (GT c s) 224 (ls9 i) [] V := by
  obtain ⟨q, hL⟩ := hL0
  have hC := hL.1
  have hM := hL.2.1
  have hK := hL.2.2
  have g13 : V 13 1 = V 55 1 := hC.1.2.1.trans hM.1.2.1.symm
  have hM1 : ∀ V1, V1 = V → LKM q V1 := fun V1 e => e.symm ▸ hM
  have hR1 : ∀ V1 : VV, V1 = V → ∀ k, 0 ≤ k → k < V1 55 5 → 0 ≤ V1 59 k ∧ V1 59 k < gO q := fun V1 e k k0 k1 => by
    have h9 := (hM1 V1 e).2.2.2.2.1 k k0 k1
    rw [(hM1 V1 e).1.2.1] at h9
    exact h9
  have hn5 := hK.2.2.2.2.2.1
  have h59 := hK.2.2.2.2.2.2.1
  have h3 := hC.2.2.2.1
  have hrg := hC.2.2.2.2.2.1
  have h13 : V 13 1 = V 15 3 := hC.1.2.1.trans h3.symm
  have hTB : TB V := hC.2.2.2.2.2.2.2.2.1
  have h23 := hK.2.2.2.2.2.2.2.1
  have hpp := hK.2.2.2.2.2.2.2.2.1
  have hT := hM.2.2.2.2.2.2.1
  refine st_0 (lo9 := 130) (fr2 := 1) (lo2 := 22) hX hR9 hi hrm (by decide) (by decide) (ok_X11_append_T hTB) (fun E V' h => h.1) (fun k V1 hk => ok_X12_append_T ?_) (fun k V1 b V2 hk hq => ?_)
  · have m : ∀ a b : Int, 55 ≤ a → a ≠ 87 → V1 a b = V a b := fun a b h1 h2 => by
      rcases hk with ⟨x, V0, ⟨_, _, ⟨_, _, _, hf⟩, _⟩, rfl, _⟩ | ⟨⟨_, _, rfl⟩, _⟩
      · rw [up_n _ (by omega), hf a b (by omega) (by omega)]
      · rfl
    rw [m 55 23 (by decide) (by decide)]
    exact ⟨hT.1, hT.2.1⟩
  · have m : ∀ a b : Int, 55 ≤ a → a ≠ 87 → V1 a b = V a b := fun a b h1 h2 => by
      rcases hk with ⟨x, V0, ⟨_, _, ⟨_, _, _, hf⟩, _⟩, rfl, _⟩ | ⟨⟨_, _, rfl⟩, _⟩
      · rw [up_n _ (by omega), hf a b (by omega) (by omega)]
      · rfl
    rw [m 55 23 (by decide) (by decide), ← h23] at hq
    rcases hk with ⟨x, V0, ⟨rfl, hle, ⟨a1, a2, a3, hf⟩, a4⟩, rfl, rfl⟩ | ⟨⟨_, hle, rfl⟩, rfl⟩
    · rcases hq with ⟨_, rfl, q0, q1, q2, q3, q4, q5⟩ | ⟨hn, _⟩
      · have lo : ∀ a b : Int, a < 55 → V2 a b = V0 a b := fun a b h => by rw [q5 a b (by simp; omega), up_n _ (by omega)]
        have w21 : V2 2 1 = V 2 1 + 20 := (lo 2 1 (by decide)).trans (by omega)
        have wp : ∀ p, V2 68 p = V2 3 p := fun p => by
          rw [lo 3 p (by decide)]
          by_cases h0 : 0 ≤ p - V 2 1 ∧ p - V 2 1 < 20
          · have e1 := q3 (p - V 2 1) h0.1 h0.2
            have e2 := a2 (p - V 2 1) h0.1 (by omega)
            rw [show V 2 1 + (p - V 2 1) = p by omega] at e1 e2
            rw [e1, e2]
          · rw [q4 p (by omega), m 68 p (by decide) (by decide), hpp p]
            by_cases h1 : p < V 2 1
            · exact (a3 p h1).symm
            · exact (a4 p (by omega)).symm
        have wb : ∀ p, 0 ≤ p → p < 500 → 0 ≤ V2 3 p ∧ V2 3 p ≤ 255 := fun p p0 p1 => by
          rw [lo 3 p (by decide)]
          by_cases h0 : 0 ≤ p - V 2 1 ∧ p - V 2 1 < 20
          · have e2 := a2 (p - V 2 1) h0.1 (by omega)
            rw [show V 2 1 + (p - V 2 1) = p by omega] at e2
            rw [e2]
            exact byteF_b _ _
          · by_cases h1 : p < V 2 1
            · rw [a3 p h1]; exact hTB.2.2 p p0 p1
            · rw [a4 p (by omega)]; exact hTB.2.2 p p0 p1
        have w0 := hTB.1
        refine ⟨q0, fun _ => by rw [q5 87 0 (by decide), up_s], hN _ (LKS.mono ⟨q, hL.text (fun a ha hb b => ?_) (fun b h0 hb => ?_) ?_ ?_ ?_ wp⟩)⟩
        · have := rel_no ha
          simp at hb
          rw [q5 a b (by simp; omega), up_n _ (by omega), hf a b (by omega) (by omega)]
        · simp at hb
          rw [q2 b h0 (by omega), m 55 b (by decide) (by decide)]
        · unfold TB
          rw [w21]
          exact ⟨by omega, by omega, wb⟩
        · rw [q1]
          exact ⟨by omega, by omega, fun p p0 p1 => by rw [wp]; exact wb p p0 p1⟩
        · rw [w21, q1]
      · omega
    · rcases hq with ⟨hn, _⟩ | ⟨_, _, rfl⟩
      · omega
      · exact ⟨up_s .., fun h => absurd h (by decide), hN _ (LKS.mono ⟨q, hL.u55.u55⟩)⟩
