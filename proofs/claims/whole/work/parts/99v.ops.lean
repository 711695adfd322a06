/-! load once more, with its frame; its case of the law -/
set_option maxHeartbeats 4000000 in
theorem ok_X12_load_T {V : VV} (htx : 0 ≤ V 55 23 ∧ V 55 23 ≤ 500 ∧ ∀ p, 0 ≤ p → p < 500 → 0 ≤ V 68 p ∧ V 68 p ≤ 255) (h28 : 0 ≤ V 55 28 ∧ V 55 28 ≤ 99) (hg10 : 2 ≤ V 55 10 ∧ V 55 10 ≤ 6) : Ok NA yX12_load cX12_load 3 (some .int) 8 172 [vA 55] V (pI (fun x9 V' => ((x9 = V' 55 5 ∧ V' 55 0 = 0 ∧ LDok V V') ∨ (x9 = 0 ∧ V' 55 0 = 1 ∧ (∃ e, pAll (V 68) (V 55 23) = .error e ∧ V' 55 29 = e.1 ∧ V' 55 30 = e.2) ∧ fL V V')) ∧ V' 55 23 = 0 ∧ (2 ≤ V' 55 10 ∧ V' 55 10 ≤ 6) ∧ (0 ≤ V' 55 28 ∧ V' 55 28 ≤ 99) ∧ ∀ a b : Int, (a < 55 ∨ 66 < a) → V' a b = V a b)) := by
  refine Ok.intro (by decide +kernel) (Nat.le_of_ble_eq_true rfl) (fun X G hX hG hR hoa hoV => ?_)
  show J X G 0 [vA 55, vU, vU] [] V
  refine j_al0 hX dX12_load_0 rfl ?_
  refine j_iconst hX dX12_load_1 ⟨by decide, by decide⟩ ?_
  refine j_putI hX hG fp_X12_126 rfl (by decide) dX12_load_2 ?_
  refine j_al0 hX dX12_load_5 rfl ?_
  refine j_al0 hX dX12_load_6 rfl ?_
  refine j_getI hX hG fl_X12_165 (Or.inl rfl) (by decide) dX12_load_7 ?_
  refine j_putI hX hG fp_X12_176 rfl (by decide) dX12_load_10 ?_
  refine j_al0 hX dX12_load_13 rfl ?_
  refine j_iconst hX dX12_load_14 ⟨by decide, by decide⟩ ?_
  refine j_putI hX hG fp_X12_165 rfl (by decide) dX12_load_15 ?_
  refine j_al0 hX dX12_load_18 rfl ?_
  refine j_iconst hX dX12_load_19 ⟨by decide, by decide⟩ ?_
  refine j_putI hX hG fp_X12_179 rfl (by decide) dX12_load_20 ?_
  refine j_al0 hX dX12_load_23 rfl ?_
  refine j_iconst hX dX12_load_24 ⟨by decide, by decide⟩ ?_
  refine j_putI hX hG fp_X12_201 rfl (by decide) dX12_load_25 ?_
  refine j_al0 hX dX12_load_28 rfl ?_
  refine j_iconst hX dX12_load_29 ⟨by decide, by decide⟩ ?_
  refine j_putI hX hG fp_X12_50 rfl (by decide) dX12_load_30 ?_
  generalize hN : up _ 55 30 _ = U9
  have uF : ∀ b, b ≠ 0 → b ≠ 23 → b ≠ 24 → b ≠ 25 → b ≠ 29 → b ≠ 30 → U9 55 b = V 55 b := fun b h0 h1 h2 h3 h4 h5 => by rw [← hN, up_n _ (by omega), up_n _ (by omega), up_n _ (by omega), up_n _ (by omega), up_n _ (by omega), up_n _ (by omega)]
  have uC : ∀ a b, a ≠ 55 → U9 a b = V a b := fun a b ha => by rw [← hN, up_n _ (by omega), up_n _ (by omega), up_n _ (by omega), up_n _ (by omega), up_n _ (by omega), up_n _ (by omega)]
  have u0 : U9 55 0 = 0 := by rw [← hN, up_n _ (by decide), up_n _ (by decide), up_n _ (by decide), up_n _ (by decide), up_n _ (by decide), up_s]
  have u24 : U9 55 24 = V 55 23 := by rw [← hN, up_n _ (by decide), up_n _ (by decide), up_n _ (by decide), up_n _ (by decide), up_s, up_n _ (by decide)]
  have u23 : U9 55 23 = 0 := by rw [← hN, up_n _ (by decide), up_n _ (by decide), up_n _ (by decide), up_s]
  have u25 : U9 55 25 = 0 := by rw [← hN, up_n _ (by decide), up_n _ (by decide), up_s]
  have u29 : U9 55 29 = 0 := by rw [← hN, up_n _ (by decide), up_s]
  have u30 : U9 55 30 = -1 := by rw [← hN, up_s]
  clear hN
  have uL : fL V U9 := ⟨fun b hb => uF b (by omega) (by omega) (by omega) (by omega) (by omega) (by omega), fun a b h1 _ => uC a b h1⟩
  refine j_iconst hX dX12_load_33 ⟨by decide, by decide⟩ ?_
  refine j_is1 hX dX12_load_34 rfl ?_
  have lp_35 : ∀ (f9 : Nat) (e : Int) (Y : VV), (0 ≤ e ∧ e ≤ 216) → (fr [64] U9 Y) → (∀ j, 0 ≤ j → j < e → Y 64 j = 0) → ((216 - e).toNat) < f9 → J X G 35 [vA 55, vI e, vU] [] Y := by
    intro f9
    induction f9 with
    | zero => intro e Y _ _ _ hm; exact absurd hm (Nat.not_lt_zero _)
    | succ f9 ih_35 =>
      intro e Y he hy hD hm
      refine j_il1 hX dX12_load_35 ?_
      refine j_sipush hX dX12_load_36 (by decide) ⟨by decide, by decide⟩ ?_
      refine j_icmp_ge (tgt := 55) hX dX12_load_39 (by decide) (fun h_39 => ?_) (fun h_39 => ?_)
      · skip
        have e68_Y : Y 68 = V 68 := (funext fun b => hy 68 b (by decide)).trans (funext fun b => uC 68 b (by decide))
        have e24_Y : Y 55 24 = V 55 23 := (hy 55 24 (by decide)).trans u24
        have y25 : Y 55 25 = 0 := (hy 55 25 (by decide)).trans u25
        have y28 : Y 55 28 = V 55 28 := (hy 55 28 (by decide)).trans (uF 28 (by decide) (by decide) (by decide) (by decide) (by decide) (by decide))
        have mt_Y : MTB Y := by unfold MTB; rw [e68_Y, e24_Y]; exact htx
        have y64 : ∀ j, 0 ≤ j → j < 216 → Y 64 j = 0 := fun j a b => hD j a (by omega)
        refine j_al0 hX dX12_load_55 rfl ?_
        refine j_cVV0 (ci := 12) hX hG lk_X12_222 (ok_X12_token mt_Y (by rw [y25, e24_Y]; omega) (by rw [y28]; exact h28)) (by decide) rfl (Nat.le_of_ble_eq_true rfl) (Nat.le_of_ble_eq_true rfl) (Nat.le_of_ble_eq_true rfl) rfl dX12_load_56 (fun V_56 h_56 => ?_)
        obtain ⟨t_56, n_56, f_56, g_56⟩ := h_56
        have e68_V_56 : V_56 68 = V 68 := (funext fun b => g_56 68 b (by decide)).trans e68_Y
        have e24_V_56 : V_56 55 24 = V 55 23 := (f_56 24 (by decide) (by decide) (by decide) (by decide)).trans e24_Y
        have mt_V_56 : MTB V_56 := by unfold MTB; rw [e68_V_56, e24_V_56]; exact htx
        rw [e68_Y, e24_Y, y25] at t_56
        have s_56 : STA V_56 ((.ok (sgS (V 68) (V 55 23) 0)) : PR Int) := ⟨t_56, n_56, (f_56 29 (by decide) (by decide) (by decide) (by decide)).trans ((hy 55 29 (by decide)).trans u29), (f_56 30 (by decide) (by decide) (by decide) (by decide)).trans ((hy 55 30 (by decide)).trans u30)⟩
        have L0 : fL V V_56 := fL_t uL ⟨fun b hb => (f_56 b (by omega) (by omega) (by omega) (by omega)).trans (hy 55 b (by decide)), fun a b h1 h2 => (g_56 a b h1).trans (hy a b (by simp; omega))⟩
        refine j_al0 hX dX12_load_59 rfl ?_
        refine j_cVV0 (ci := 12) hX hG lk_X12_275 (ok_X12_group mt_V_56 s_56 (by rw [f_56 10 (by decide) (by decide) (by decide) (by decide), hy 55 10 (by decide), uF 10 (by decide) (by decide) (by decide) (by decide) (by decide) (by decide)]; exact hg10)) (by decide) rfl (Nat.le_of_ble_eq_true rfl) (Nat.le_of_ble_eq_true rfl) (Nat.le_of_ble_eq_true rfl) rfl dX12_load_60 (fun V_60 h_60 => ?_)
        obtain ⟨s_60x, g10_60, k_60, f_60⟩ := h_60
        rw [e68_V_56, e24_V_56] at s_60x k_60
        have s_60 : STA V_60 (Except.map Prod.snd (pGroup (V 68) (V 55 23) (sgS (V 68) (V 55 23) 0))) := s_60x
        have e68_V_60 : V_60 68 = V 68 := (funext fun b => f_60.2 68 b (by decide) (by decide)).trans e68_V_56
        have e24_V_60 : V_60 55 24 = V 55 23 := (f_60.1 24 (by decide)).trans e24_V_56
        have mt_V_60 : MTB V_60 := by unfold MTB; rw [e68_V_60, e24_V_60]; exact htx
        have L1 := fL_t L0 (fL_G f_60)
        refine j_al0 hX dX12_load_63 rfl ?_
        refine j_ldcSw (k := 16) hX dX12_load_64 rfl ?_
        refine j_cVV1 (ci := 12) hX hG lk_X12_261 (ok_X12_must mt_V_60 s_60 (by first | assumption | rfl)) (by decide) rfl (Nat.le_of_ble_eq_true rfl) (Nat.le_of_ble_eq_true rfl) (Nat.le_of_ble_eq_true rfl) rfl dX12_load_67 (fun V_67 h_67 => ?_)
        obtain ⟨s_67, f_67⟩ := h_67
        rw [e68_V_60, e24_V_60] at s_67
        have e68_V_67 : V_67 68 = V 68 := (funext fun b => f_67.2 68 b (by decide)).trans e68_V_60
        have e24_V_67 : V_67 55 24 = V 55 23 := (f_67.1 24 (by decide)).trans e24_V_60
        have mt_V_67 : MTB V_67 := by unfold MTB; rw [e68_V_67, e24_V_67]; exact htx
        have L2 := fL_t L1 (fL_T f_67)
        refine j_al0 hX dX12_load_70 rfl ?_
        refine j_al0 hX dX12_load_71 rfl ?_
        refine j_iconst hX dX12_load_72 ⟨by decide, by decide⟩ ?_
        refine j_iconst hX dX12_load_73 ⟨by decide, by decide⟩ ?_
        refine j_cVI2 (ci := 12) hX hG lk_X12_247 (ok_X12_figure mt_V_67 s_67) (by decide) rfl (Nat.le_of_ble_eq_true rfl) (Nat.le_of_ble_eq_true rfl) (Nat.le_of_ble_eq_true rfl) rfl dX12_load_74 (fun x_74 V_74 h_74 => ?_)
        obtain ⟨b_74, v_74, s_74, f_74⟩ := h_74
        rw [e68_V_67, e24_V_67] at s_74 v_74
        have e68_V_74 : V_74 68 = V 68 := (funext fun b => f_74.2 68 b (by decide)).trans e68_V_67
        have e24_V_74 : V_74 55 24 = V 55 23 := (f_74.1 24 (by decide)).trans e24_V_67
        have mt_V_74 : MTB V_74 := by unfold MTB; rw [e68_V_74, e24_V_74]; exact htx
        have L3 := fL_t L2 (fL_T f_74)
        have b74 := b_74 (by decide)
        refine j_putI hX hG fp_X12_113 rfl (by decide) dX12_load_77 ?_
        generalize hN : up V_74 55 11 x_74 = N
        have n11 : N 55 11 = x_74 := by rw [← hN, up_s]
        have nF : ∀ b, b ≠ 11 → N 55 b = V_74 55 b := fun b hb => by rw [← hN, up_n _ (by omega)]
        have nC : ∀ a b, a ≠ 55 → N a b = V_74 a b := fun a b ha => by rw [← hN, up_n _ (by omega)]
        clear hN
        have n68 : N 68 = V 68 := (funext fun b => nC 68 b (by decide)).trans e68_V_74
        have n24 : N 55 24 = V 55 23 := (nF 24 (by decide)).trans e24_V_74
        have mt_N : MTB N := by unfold MTB; rw [n68, n24]; exact htx
        have s_N := STA.c s_74 (W := N) (fun b h1 h2 => nF b (by omega)) (funext fun b => nC 68 b (by decide))
        have LN := fL_t L3 (show fL V_74 N from ⟨fun b hb => nF b (by omega), fun a b h1 _ => nC a b h1⟩)
        refine j_al0 hX dX12_load_80 rfl ?_
        refine j_cVV0 (ci := 12) hX hG lk_X12_250 (ok_X12_ends mt_N s_N) (by decide) rfl (Nat.le_of_ble_eq_true rfl) (Nat.le_of_ble_eq_true rfl) (Nat.le_of_ble_eq_true rfl) rfl dX12_load_81 (fun V_81 h_81 => ?_)
        obtain ⟨s_81x, f_81⟩ := h_81
        rw [n68, n24] at s_81x
        have s_81 : STA V_81 (r2F (V 68) (V 55 23) (pGroup (V 68) (V 55 23) (sgS (V 68) (V 55 23) 0))) := s_81x
        have e68_V_81 : V_81 68 = V 68 := (funext fun b => f_81.2 68 b (by decide)).trans n68
        have e24_V_81 : V_81 55 24 = V 55 23 := (f_81.1 24 (by decide)).trans n24
        have mt_V_81 : MTB V_81 := by unfold MTB; rw [e68_V_81, e24_V_81]; exact htx
        have L4 := fL_t LN (fL_T f_81)
        have g81 : V_81 55 10 = V_60 55 10 := (f_81.1 10 (by decide)).trans ((nF 10 (by decide)).trans ((f_74.1 10 (by decide)).trans (f_67.1 10 (by decide))))
        have w81 : V_81 55 11 = x_74 := (f_81.1 11 (by decide)).trans n11
        have t81 : ∀ b, V_81 60 b = V_60 60 b := fun b => (f_81.2 60 b (by decide)).trans ((nC 60 b (by decide)).trans ((f_74.2 60 b (by decide)).trans (f_67.2 60 b (by decide))))
        have hg8 : 2 ≤ V_81 55 10 ∧ V_81 55 10 ≤ 6 := by rw [g81]; exact g10_60
        have hw8 : V_81 55 11 = 2 ∨ V_81 55 11 = 3 := by omega
        refine j_al0 hX dX12_load_84 rfl ?_
        refine j_cVV0 (ci := 12) hX hG lk_X12_280 (ok_X12_terms mt_V_81 s_81 hg8 hw8) (by decide) rfl (Nat.le_of_ble_eq_true rfl) (Nat.le_of_ble_eq_true rfl) (Nat.le_of_ble_eq_true rfl) rfl dX12_load_85 (fun V_85 h_85 => ?_)
        obtain ⟨s_85x, k_85, f_85⟩ := h_85
        rw [e68_V_81, e24_V_81] at s_85x k_85
        have s_85 : STA V_85 (Except.map Prod.snd (tmF (V 68) (V 55 23) (V_81 55 10) (V_81 55 11) (r2F (V 68) (V 55 23) (pGroup (V 68) (V 55 23) (sgS (V 68) (V 55 23) 0))))) := s_85x
        have e68_V_85 : V_85 68 = V 68 := (funext fun b => f_85.2 68 b (by decide) (by decide)).trans e68_V_81
        have e24_V_85 : V_85 55 24 = V 55 23 := (f_85.1 24 (by decide)).trans e24_V_81
        have mt_V_85 : MTB V_85 := by unfold MTB; rw [e68_V_85, e24_V_85]; exact htx
        have L5 := fL_t L4 (fL_M f_85)
        have l10 : V_85 55 10 = V_81 55 10 := f_85.1 10 (by decide)
        have l11 : V_85 55 11 = V_81 55 11 := f_85.1 11 (by decide)
        have gg8 := all_b hg8 hw8
        have hOK : V_85 55 29 = 0 → ∃ s3, (tmF (V 68) (V 55 23) (V_81 55 10) (V_81 55 11) (r2F (V 68) (V 55 23) (pGroup (V 68) (V 55 23) (sgS (V 68) (V 55 23) 0)))) = .ok ((okd (tmF (V 68) (V 55 23) (V_81 55 10) (V_81 55 11) (r2F (V 68) (V 55 23) (pGroup (V 68) (V 55 23) (sgS (V 68) (V 55 23) 0))))), s3) ∧ ((okq (pGroup (V 68) (V 55 23) (sgS (V 68) (V 55 23) 0))) < 7 ∧ V_81 55 10 = gO (okq (pGroup (V 68) (V 55 23) (sgS (V 68) (V 55 23) 0)))) ∧ (∀ a b : Int, 0 ≤ a → a < gO (okq (pGroup (V 68) (V 55 23) (sgS (V 68) (V 55 23) 0))) → 0 ≤ b → b < gO (okq (pGroup (V 68) (V 55 23) (sgS (V 68) (V 55 23) 0))) → V_85 60 (gO (okq (pGroup (V 68) (V 55 23) (sgS (V 68) (V 55 23) 0))) * a + b) = gM (okq (pGroup (V 68) (V 55 23) (sgS (V 68) (V 55 23) 0))) a b) ∧ TMS V_85 (V_81 55 10) (V_81 55 11) (okd (tmF (V 68) (V 55 23) (V_81 55 10) (V_81 55 11) (r2F (V 68) (V 55 23) (pGroup (V 68) (V 55 23) (sgS (V 68) (V 55 23) 0))))) ∧ ((okd (tmF (V 68) (V 55 23) (V_81 55 10) (V_81 55 11) (r2F (V 68) (V 55 23) (pGroup (V 68) (V 55 23) (sgS (V 68) (V 55 23) 0)))))).length ≤ 8 := fun q => by
          obtain ⟨s3, h3⟩ := ld_ok s_85 q
          obtain ⟨s2, e2⟩ := ld_g h3
          have kq := k_60 _ _ _ rfl e2
          exact ⟨s3, h3, ⟨kq.1, g81.trans kq.2.1⟩, fun a b a0 a1 b0 b1 => ((f_85.2 60 _ (by decide) (by decide)).trans (t81 _)).trans (kq.2.2 a b a0 a1 b0 b1), k_85 _ _ h3, ld_8 h3⟩
        have jn_113 : ∀ (z : Int), (z = if V_81 55 11 = 2 then 1 else V_81 55 10) → J X G 113 [vA 55, vU, vU] [vI z, vI (V_81 55 10 * V_81 55 10)] V_85 := by
          intro z hz
          refine j_imul hX dX12_load_113 (by rw [hz]; omega) ?_
          refine j_eqS (st' := [vI (V_81 55 10 * V_81 55 10 * (if V_81 55 11 = 2 then 1 else V_81 55 10))]) (by rw [hz]) ?_
          refine j_is1 hX dX12_load_114 rfl ?_
          refine j_iconst hX dX12_load_115 ⟨by decide, by decide⟩ ?_
          refine j_is2 hX dX12_load_116 rfl ?_
          have lp_117 : ∀ (f9 : Nat) (i : Int) (W : VV), (0 ≤ i ∧ i ≤ (V_81 55 10 * V_81 55 10 * (if V_81 55 11 = 2 then 1 else V_81 55 10))) → (fr [61] V_85 W) → (V_85 55 29 = 0 → ∀ j, 0 ≤ j → j < i → W 61 j = tabF (okq (pGroup (V 68) (V 55 23) (sgS (V 68) (V 55 23) 0))) (V_81 55 11) 0 (okd (tmF (V 68) (V 55 23) (V_81 55 10) (V_81 55 11) (r2F (V 68) (V 55 23) (pGroup (V 68) (V 55 23) (sgS (V 68) (V 55 23) 0))))) j) → (((V_81 55 10 * V_81 55 10 * (if V_81 55 11 = 2 then 1 else V_81 55 10)) - i).toNat) < f9 → J X G 117 [vA 55, vI (V_81 55 10 * V_81 55 10 * (if V_81 55 11 = 2 then 1 else V_81 55 10)), vI i] [] W := by
            intro f9
            induction f9 with
            | zero => intro i W _ _ _ hm; exact absurd hm (Nat.not_lt_zero _)
            | succ f9 ih_117 =>
              intro i W hi hw hT8 hm
              refine j_il2 hX dX12_load_117 ?_
              refine j_il1 hX dX12_load_118 ?_
              refine j_icmp_ge (tgt := 146) hX dX12_load_119 (by decide) (fun h_119 => ?_) (fun h_119 => ?_)
              · skip
                have e68_W : W 68 = V 68 := (funext fun b => hw 68 b (by decide)).trans e68_V_85
                have e24_W : W 55 24 = V 55 23 := (hw 55 24 (by decide)).trans e24_V_85
                have mt_W : MTB W := by unfold MTB; rw [e68_W, e24_W]; exact htx
                have w10 : W 55 10 = V_81 55 10 := (hw 55 10 (by decide)).trans l10
                have w11 : W 55 11 = V_81 55 11 := (hw 55 11 (by decide)).trans l11
                have L6 := fL_t L5 (show fL V_85 W from ⟨fun b _ => hw 55 b (by decide), fun a b h1 h2 => hw a b (by simp; omega)⟩)
                have w64 : ∀ e, 0 ≤ e → e < 216 → W 64 e = 0 := fun e h0 h1 => (hw 64 e (by decide)).trans ((f_85.2 64 e (by decide) (by decide)).trans ((f_81.2 64 e (by decide)).trans ((nC 64 e (by decide)).trans ((f_74.2 64 e (by decide)).trans ((f_67.2 64 e (by decide)).trans ((f_60.2 64 e (by decide) (by decide)).trans ((g_56 64 e (by decide)).trans (y64 e h0 h1))))))))
                have s_W := STA.c s_85 (W := W) (fun b _ _ => hw 55 b (by decide)) (funext fun b => hw 68 b (by decide))
                have hTW : V_85 55 29 = 0 → ∀ j, 0 ≤ j → j < (V_81 55 10 * V_81 55 10 * (if V_81 55 11 = 2 then 1 else V_81 55 10)) → W 61 j = tabF (okq (pGroup (V 68) (V 55 23) (sgS (V 68) (V 55 23) 0))) (V_81 55 11) 0 (okd (tmF (V 68) (V 55 23) (V_81 55 10) (V_81 55 11) (r2F (V 68) (V 55 23) (pGroup (V 68) (V 55 23) (sgS (V 68) (V 55 23) 0))))) j := fun q j j0 j1 => by
                  first
                  | exact hT8 q j j0 (by omega)
                  | exact absurd ((hw 55 29 (by decide)).trans q) h_126
                refine j_al0 hX dX12_load_146 rfl ?_
                refine j_cVV0 (ci := 12) hX hG lk_X12_285 (ok_X12_cases mt_W s_W (by rw [w10]; exact hg8) (by rw [w11]; exact hw8) w64) (by decide) rfl (Nat.le_of_ble_eq_true rfl) (Nat.le_of_ble_eq_true rfl) (Nat.le_of_ble_eq_true rfl) rfl dX12_load_147 (fun V_147 h_147 => ?_)
                obtain ⟨s_147, k_147, f_147⟩ := h_147
                rw [e68_W, e24_W, w10, w11] at s_147 k_147
                have e68_V_147 : V_147 68 = V 68 := (funext fun b => f_147.2 68 b (by decide) (by decide) (by decide)).trans e68_W
                have e24_V_147 : V_147 55 24 = V 55 23 := (f_147.1 24 (by decide)).trans e24_W
                have mt_V_147 : MTB V_147 := by unfold MTB; rw [e68_V_147, e24_V_147]; exact htx
                have L7 := fL_t L6 (fL_C f_147)
                have c10 : V_147 55 10 = V_81 55 10 := (f_147.1 10 (by decide)).trans w10
                refine j_al0 hX dX12_load_150 rfl ?_
                refine j_cVV0 (ci := 12) hX hG lk_X12_288 (ok_X12_ring mt_V_147 s_147 (by rw [c10]; exact hg8)) (by decide) rfl (Nat.le_of_ble_eq_true rfl) (Nat.le_of_ble_eq_true rfl) (Nat.le_of_ble_eq_true rfl) rfl dX12_load_151 (fun V_151 h_151 => ?_)
                obtain ⟨s_151x, k_151, f_151⟩ := h_151
                rw [e68_V_147, e24_V_147, c10] at s_151x k_151
                have s_151 : STA V_151 (Except.map Prod.snd (rgF (V 68) (V 55 23) (V_81 55 10) (Except.map Prod.snd (TOTC (V 68) (V 55 23) (V_81 55 10) (V_81 55 11) (Except.map Prod.snd (tmF (V 68) (V 55 23) (V_81 55 10) (V_81 55 11) (r2F (V 68) (V 55 23) (pGroup (V 68) (V 55 23) (sgS (V 68) (V 55 23) 0))))) [])))) := s_151x
                have e68_V_151 : V_151 68 = V 68 := (funext fun b => f_151.2 68 b (by decide) (by decide)).trans e68_V_147
                have e24_V_151 : V_151 55 24 = V 55 23 := (f_151.1 24 (by decide)).trans e24_V_147
                have mt_V_151 : MTB V_151 := by unfold MTB; rw [e68_V_151, e24_V_151]; exact htx
                have L8 := fL_t L7 (fL_R f_151)
                have jn_173 : ∀ (Z : VV), (STA Z (r6F (V 68) (V 55 23) (V_81 55 10) (V_81 55 11) (r2F (V 68) (V 55 23) (pGroup (V 68) (V 55 23) (sgS (V 68) (V 55 23) 0))))) → (fT V_151 Z) → J X G 173 [vA 55, vI (V_81 55 10 * V_81 55 10 * (if V_81 55 11 = 2 then 1 else V_81 55 10)), vU] [] Z := by
                  intro Z sZ fZ
                  have L9 := fL_t L8 (fL_T fZ)
                  have z0 : Z 55 0 = 0 := (fZ.1 0 (by decide)).trans ((f_151.1 0 (by decide)).trans ((f_147.1 0 (by decide)).trans ((hw 55 0 (by decide)).trans ((f_85.1 0 (by decide)).trans ((f_81.1 0 (by decide)).trans ((nF 0 (by decide)).trans ((f_74.1 0 (by decide)).trans ((f_67.1 0 (by decide)).trans ((f_60.1 0 (by decide)).trans ((f_56 0 (by decide) (by decide) (by decide) (by decide)).trans ((hy 55 0 (by decide)).trans u0)))))))))))
                  have z23 : Z 55 23 = 0 := (fZ.1 23 (by decide)).trans ((f_151.1 23 (by decide)).trans ((f_147.1 23 (by decide)).trans ((hw 55 23 (by decide)).trans ((f_85.1 23 (by decide)).trans ((f_81.1 23 (by decide)).trans ((nF 23 (by decide)).trans ((f_74.1 23 (by decide)).trans ((f_67.1 23 (by decide)).trans ((f_60.1 23 (by decide)).trans ((f_56 23 (by decide) (by decide) (by decide) (by decide)).trans ((hy 55 23 (by decide)).trans u23)))))))))))
                  have z10 : Z 55 10 = V_81 55 10 := (fZ.1 10 (by decide)).trans ((f_151.1 10 (by decide)).trans c10)
                  have z68 : ∀ b, Z 68 b = V 68 b := fun b => (fZ.2 68 b (by decide)).trans (congrFun e68_V_151 b)
                  have z28 := sZ.b28
                  refine j_al0 hX dX12_load_173 rfl ?_
                  have jn_186 : ∀ (z : Int), (z = if Z 55 29 = 0 then 1 else 0) → J X G 186 [vA 55, vI (V_81 55 10 * V_81 55 10 * (if V_81 55 11 = 2 then 1 else V_81 55 10)), vU] [vI z, vA 55] Z := by
                    intro z hz9
                    refine j_iconst hX dX12_load_186 ⟨by decide, by decide⟩ ?_
                    refine j_cVI2 (ci := 12) hX hG lk_X12_168 (ok_X12_may z0 (by decide)) (by decide) rfl (Nat.le_of_ble_eq_true rfl) (Nat.le_of_ble_eq_true rfl) (Nat.le_of_ble_eq_true rfl) rfl dX12_load_187 (fun x_187 V_187 h_187 => ?_)
                    skip
                    refine j_if_ne (tgt := 195) hX dX12_load_190 (by decide) (fun h_190 => ?_) (fun h_190 => ?_)
                    · skip
                      obtain ⟨c_187, -, w_187⟩ := h_187.elim id (fun q => absurd q.2.1 (by omega))
                      have w2_187 := w_187.symm
                      subst w2_187
                      have c29 : Z 55 29 = 0 := Classical.byContradiction fun q => c_187 (by rw [hz9, if_neg q])
                      obtain ⟨s6, h6⟩ := ld_6 sZ c29
                      have w29 : V_85 55 29 = 0 := ld_85 s_85 h6
                      obtain ⟨s3, h3, kq, kt, km, kl⟩ := hOK w29
                      obtain ⟨cs, s4, xs, s5, hcs, hxs, hpa⟩ := ld_all h6 h3 kq.2 (fun s e => w81.trans (v_74 s e.1 e.2))
                      have krg := k_151 _ _ hxs
                      have kcs := k_147 _ _ hcs
                      have zt : ∀ a b : Int, 0 ≤ a → a < gO (okq (pGroup (V 68) (V 55 23) (sgS (V 68) (V 55 23) 0))) → 0 ≤ b → b < gO (okq (pGroup (V 68) (V 55 23) (sgS (V 68) (V 55 23) 0))) → Z 60 (gO (okq (pGroup (V 68) (V 55 23) (sgS (V 68) (V 55 23) 0))) * a + b) = gM (okq (pGroup (V 68) (V 55 23) (sgS (V 68) (V 55 23) 0))) a b := fun a b a0 a1 b0 b1 => ((fZ.2 60 _ (by decide)).trans ((f_151.2 60 _ (by decide) (by decide)).trans ((f_147.2 60 _ (by decide) (by decide) (by decide)).trans (hw 60 _ (by decide))))).trans (kt a b a0 a1 b0 b1)
                      have z12 : Z 55 12 = xs.length := (fZ.1 12 (by decide)).trans krg.1.1
                      have z11 : Z 55 11 = V_81 55 11 := (fZ.1 11 (by decide)).trans ((f_151.1 11 (by decide)).trans ((f_147.1 11 (by decide)).trans w11))
                      refine j_al0 hX dX12_load_195 rfl ?_
                      refine j_cVV0 (ci := 12) hX hG lk_X12_123 (ok_X12_takes kq.1 (z10.trans kq.2) zt (by rw [z11]; exact hw8) (by rw [z12]; omega)) (by decide) rfl (Nat.le_of_ble_eq_true rfl) (Nat.le_of_ble_eq_true rfl) (Nat.le_of_ble_eq_true rfl) rfl dX12_load_196 (fun V_196 h_196 => ?_)
                      obtain ⟨a1, a2, a3, a4, a5, a6, a7, a8, a9⟩ := h_196
                      refine j_al0 hX dX12_load_199 rfl ?_
                      refine j_getI hX hG fl_X12_142 (Or.inl rfl) (by decide) dX12_load_200 ?_
                      exact j_retI hR dX12_load_203 (by
      refine ⟨Or.inl ⟨rfl, (a8 0 (Or.inl rfl)).trans z0, _, hpa, a1, a2, ?_, fun e e0 e1 => ?_, a4.trans z12, by rw [a4, z12]; omega, fun k k0 k1 => ?_, (a8 29 (by omega)).trans c29, (a8 30 (by omega)).trans (ld_30 sZ c29), a7⟩, (a8 23 (by omega)).trans z23, by rw [a8 10 (by omega), z10]; exact hg8, by rw [a8 28 (by omega)]; exact z28, fun a b ha => (a9 a b (by simp; omega)).trans (L9.2 a b (by omega) (by omega))⟩
      · exact a3.trans z11
      · have en : V_196 55 3 = (V_81 55 10 * V_81 55 10 * (if V_81 55 11 = 2 then 1 else V_81 55 10)) := ld_n a2 (a3.trans z11) (a1.2.1.trans kq.2.symm)
        rw [a5 e e0 e1, fZ.2 61 e (by decide), f_151.2 61 e (by decide) (by decide), kcs e]
        exact casT_cm (hTW w29) e e0 (by rw [← en]; exact e1)
      · rw [a4] at k1
        rw [a6 k k0 k1, fZ.2 62 k (by decide)]
        exact rgs_g krg.1 k0 (by rw [z12] at k1; exact k1))
                    · skip
                      refine j_iconst hX dX12_load_193 ⟨by decide, by decide⟩ ?_
                      exact j_retI hR dX12_load_194 (by
      obtain ⟨c_187, -, w_187⟩ := h_187.elim (fun q => absurd q.2.1 (by omega)) id
      have c29 : Z 55 29 ≠ 0 := fun q => by rw [hz9, if_pos q] at c_187; exact absurd c_187 (by decide)
      obtain ⟨e9, h9, hw9⟩ := sZ.er c29
      rw [w_187]
      refine ⟨Or.inr ⟨rfl, up_s .., ⟨e9, ld_er h9 (fun s q s2 _ e => g81.trans (k_60 _ q s2 rfl e).2.1) (fun s e => w81.trans (v_74 s e.1 e.2)), (up_n _ (by decide)).trans hw9.2.2.1, (up_n _ (by decide)).trans hw9.2.2.2.1⟩, fL_t L9 (show fL Z _ from ⟨fun b hb => up_n _ (by omega), fun a b h1 _ => up_n _ (by omega)⟩)⟩, (up_n _ (by decide)).trans z23, by rw [up_n _ (by decide), z10]; exact hg8, by rw [up_n _ (by decide)]; exact z28, fun a b ha => (up_n _ (by omega)).trans (L9.2 a b (by omega) (by omega))⟩)
                  refine j_al0 hX dX12_load_174 rfl ?_
                  refine j_pVI0 (ci := 12) hX hG lk_X12_204 (ok_X12_isWrong ) (by decide) rfl (Nat.le_of_ble_eq_true rfl) (Nat.le_of_ble_eq_true rfl) (Nat.le_of_ble_eq_true rfl) rfl dX12_load_175 ?_
                  refine j_ifz_ne (tgt := 185) hX dX12_load_178 (by decide) (fun h_178 => ?_) (fun h_178 => ?_)
                  · skip
                    refine j_iconst hX dX12_load_185 ⟨by decide, by decide⟩ ?_
                    exact jn_186 _ (by first | exact (if_pos (Classical.byContradiction h_178)).symm | exact (if_neg h_178).symm)
                  · skip
                    refine j_iconst hX dX12_load_181 ⟨by decide, by decide⟩ ?_
                    refine j_goto (tgt := 186) hX dX12_load_182 (by decide) ?_
                    exact jn_186 _ (by first | exact (if_pos (Classical.byContradiction h_178)).symm | exact (if_neg h_178).symm)
                refine j_al0 hX dX12_load_154 rfl ?_
                refine j_pVI0 (ci := 12) hX hG lk_X12_204 (ok_X12_isWrong ) (by decide) rfl (Nat.le_of_ble_eq_true rfl) (Nat.le_of_ble_eq_true rfl) (Nat.le_of_ble_eq_true rfl) rfl dX12_load_155 ?_
                refine j_ifz_ne (tgt := 173) hX dX12_load_158 (by decide) (fun h_158 => ?_) (fun h_158 => ?_)
                · skip
                  refine j_fg2 ?_
                  exact jn_173 _ (by first | exact s_151.w h_158 _ | exact pe_n s_151 e68_V_151 e24_V_151 h_165 | exact pe_y s_151 e68_V_151 e24_V_151 (Classical.byContradiction h_158) h_165 s_170) (by first | exact fT_0 | exact f_170)
                · skip
                  refine j_al0 hX dX12_load_161 rfl ?_
                  refine j_getI hX hG fl_X12_188 (Or.inl rfl) (by decide) dX12_load_162 ?_
                  refine j_if_eq (tgt := 173) hX dX12_load_165 (by decide) (fun h_165 => ?_) (fun h_165 => ?_)
                  · skip
                    refine j_fg2 ?_
                    exact jn_173 _ (by first | exact s_151.w h_158 _ | exact pe_n s_151 e68_V_151 e24_V_151 h_165 | exact pe_y s_151 e68_V_151 e24_V_151 (Classical.byContradiction h_158) h_165 s_170) (by first | exact fT_0 | exact f_170)
                  · skip
                    refine j_al0 hX dX12_load_168 rfl ?_
                    refine j_iconst hX dX12_load_169 ⟨by decide, by decide⟩ ?_
                    refine j_cVV1 (ci := 12) hX hG lk_X12_228 (ok_X12_fails s_151 (by decide)) (by decide) rfl (Nat.le_of_ble_eq_true rfl) (Nat.le_of_ble_eq_true rfl) (Nat.le_of_ble_eq_true rfl) rfl dX12_load_170 (fun V_170 h_170 => ?_)
                    obtain ⟨s_170, f_170⟩ := h_170
                    refine j_fg2 ?_
                    exact jn_173 _ (by first | exact s_151.w h_158 _ | exact pe_n s_151 e68_V_151 e24_V_151 h_165 | exact pe_y s_151 e68_V_151 e24_V_151 (Classical.byContradiction h_158) h_165 s_170) (by first | exact fT_0 | exact f_170)
              · skip
                refine j_al0 hX dX12_load_122 rfl ?_
                refine j_pVI0 (ci := 12) hX hG lk_X12_204 (ok_X12_isWrong ) (by decide) rfl (Nat.le_of_ble_eq_true rfl) (Nat.le_of_ble_eq_true rfl) (Nat.le_of_ble_eq_true rfl) rfl dX12_load_123 ?_
                refine j_ifz_ne (tgt := 146) hX dX12_load_126 (by decide) (fun h_126 => ?_) (fun h_126 => ?_)
                · skip
                  have e68_W : W 68 = V 68 := (funext fun b => hw 68 b (by decide)).trans e68_V_85
                  have e24_W : W 55 24 = V 55 23 := (hw 55 24 (by decide)).trans e24_V_85
                  have mt_W : MTB W := by unfold MTB; rw [e68_W, e24_W]; exact htx
                  have w10 : W 55 10 = V_81 55 10 := (hw 55 10 (by decide)).trans l10
                  have w11 : W 55 11 = V_81 55 11 := (hw 55 11 (by decide)).trans l11
                  have L6 := fL_t L5 (show fL V_85 W from ⟨fun b _ => hw 55 b (by decide), fun a b h1 h2 => hw a b (by simp; omega)⟩)
                  have w64 : ∀ e, 0 ≤ e → e < 216 → W 64 e = 0 := fun e h0 h1 => (hw 64 e (by decide)).trans ((f_85.2 64 e (by decide) (by decide)).trans ((f_81.2 64 e (by decide)).trans ((nC 64 e (by decide)).trans ((f_74.2 64 e (by decide)).trans ((f_67.2 64 e (by decide)).trans ((f_60.2 64 e (by decide) (by decide)).trans ((g_56 64 e (by decide)).trans (y64 e h0 h1))))))))
                  have s_W := STA.c s_85 (W := W) (fun b _ _ => hw 55 b (by decide)) (funext fun b => hw 68 b (by decide))
                  have hTW : V_85 55 29 = 0 → ∀ j, 0 ≤ j → j < (V_81 55 10 * V_81 55 10 * (if V_81 55 11 = 2 then 1 else V_81 55 10)) → W 61 j = tabF (okq (pGroup (V 68) (V 55 23) (sgS (V 68) (V 55 23) 0))) (V_81 55 11) 0 (okd (tmF (V 68) (V 55 23) (V_81 55 10) (V_81 55 11) (r2F (V 68) (V 55 23) (pGroup (V 68) (V 55 23) (sgS (V 68) (V 55 23) 0))))) j := fun q j j0 j1 => by
                    first
                    | exact hT8 q j j0 (by omega)
                    | exact absurd ((hw 55 29 (by decide)).trans q) h_126
                  refine j_al0 hX dX12_load_146 rfl ?_
                  refine j_cVV0 (ci := 12) hX hG lk_X12_285 (ok_X12_cases mt_W s_W (by rw [w10]; exact hg8) (by rw [w11]; exact hw8) w64) (by decide) rfl (Nat.le_of_ble_eq_true rfl) (Nat.le_of_ble_eq_true rfl) (Nat.le_of_ble_eq_true rfl) rfl dX12_load_147 (fun V_147 h_147 => ?_)
                  obtain ⟨s_147, k_147, f_147⟩ := h_147
                  rw [e68_W, e24_W, w10, w11] at s_147 k_147
                  have e68_V_147 : V_147 68 = V 68 := (funext fun b => f_147.2 68 b (by decide) (by decide) (by decide)).trans e68_W
                  have e24_V_147 : V_147 55 24 = V 55 23 := (f_147.1 24 (by decide)).trans e24_W
                  have mt_V_147 : MTB V_147 := by unfold MTB; rw [e68_V_147, e24_V_147]; exact htx
                  have L7 := fL_t L6 (fL_C f_147)
                  have c10 : V_147 55 10 = V_81 55 10 := (f_147.1 10 (by decide)).trans w10
                  refine j_al0 hX dX12_load_150 rfl ?_
                  refine j_cVV0 (ci := 12) hX hG lk_X12_288 (ok_X12_ring mt_V_147 s_147 (by rw [c10]; exact hg8)) (by decide) rfl (Nat.le_of_ble_eq_true rfl) (Nat.le_of_ble_eq_true rfl) (Nat.le_of_ble_eq_true rfl) rfl dX12_load_151 (fun V_151 h_151 => ?_)
                  obtain ⟨s_151x, k_151, f_151⟩ := h_151
                  rw [e68_V_147, e24_V_147, c10] at s_151x k_151
                  have s_151 : STA V_151 (Except.map Prod.snd (rgF (V 68) (V 55 23) (V_81 55 10) (Except.map Prod.snd (TOTC (V 68) (V 55 23) (V_81 55 10) (V_81 55 11) (Except.map Prod.snd (tmF (V 68) (V 55 23) (V_81 55 10) (V_81 55 11) (r2F (V 68) (V 55 23) (pGroup (V 68) (V 55 23) (sgS (V 68) (V 55 23) 0))))) [])))) := s_151x
                  have e68_V_151 : V_151 68 = V 68 := (funext fun b => f_151.2 68 b (by decide) (by decide)).trans e68_V_147
                  have e24_V_151 : V_151 55 24 = V 55 23 := (f_151.1 24 (by decide)).trans e24_V_147
                  have mt_V_151 : MTB V_151 := by unfold MTB; rw [e68_V_151, e24_V_151]; exact htx
                  have L8 := fL_t L7 (fL_R f_151)
                  have jn_173 : ∀ (Z : VV), (STA Z (r6F (V 68) (V 55 23) (V_81 55 10) (V_81 55 11) (r2F (V 68) (V 55 23) (pGroup (V 68) (V 55 23) (sgS (V 68) (V 55 23) 0))))) → (fT V_151 Z) → J X G 173 [vA 55, vI (V_81 55 10 * V_81 55 10 * (if V_81 55 11 = 2 then 1 else V_81 55 10)), vU] [] Z := by
                    intro Z sZ fZ
                    have L9 := fL_t L8 (fL_T fZ)
                    have z0 : Z 55 0 = 0 := (fZ.1 0 (by decide)).trans ((f_151.1 0 (by decide)).trans ((f_147.1 0 (by decide)).trans ((hw 55 0 (by decide)).trans ((f_85.1 0 (by decide)).trans ((f_81.1 0 (by decide)).trans ((nF 0 (by decide)).trans ((f_74.1 0 (by decide)).trans ((f_67.1 0 (by decide)).trans ((f_60.1 0 (by decide)).trans ((f_56 0 (by decide) (by decide) (by decide) (by decide)).trans ((hy 55 0 (by decide)).trans u0)))))))))))
                    have z23 : Z 55 23 = 0 := (fZ.1 23 (by decide)).trans ((f_151.1 23 (by decide)).trans ((f_147.1 23 (by decide)).trans ((hw 55 23 (by decide)).trans ((f_85.1 23 (by decide)).trans ((f_81.1 23 (by decide)).trans ((nF 23 (by decide)).trans ((f_74.1 23 (by decide)).trans ((f_67.1 23 (by decide)).trans ((f_60.1 23 (by decide)).trans ((f_56 23 (by decide) (by decide) (by decide) (by decide)).trans ((hy 55 23 (by decide)).trans u23)))))))))))
                    have z10 : Z 55 10 = V_81 55 10 := (fZ.1 10 (by decide)).trans ((f_151.1 10 (by decide)).trans c10)
                    have z68 : ∀ b, Z 68 b = V 68 b := fun b => (fZ.2 68 b (by decide)).trans (congrFun e68_V_151 b)
                    have z28 := sZ.b28
                    refine j_al0 hX dX12_load_173 rfl ?_
                    have jn_186 : ∀ (z : Int), (z = if Z 55 29 = 0 then 1 else 0) → J X G 186 [vA 55, vI (V_81 55 10 * V_81 55 10 * (if V_81 55 11 = 2 then 1 else V_81 55 10)), vU] [vI z, vA 55] Z := by
                      intro z hz9
                      refine j_iconst hX dX12_load_186 ⟨by decide, by decide⟩ ?_
                      refine j_cVI2 (ci := 12) hX hG lk_X12_168 (ok_X12_may z0 (by decide)) (by decide) rfl (Nat.le_of_ble_eq_true rfl) (Nat.le_of_ble_eq_true rfl) (Nat.le_of_ble_eq_true rfl) rfl dX12_load_187 (fun x_187 V_187 h_187 => ?_)
                      skip
                      refine j_if_ne (tgt := 195) hX dX12_load_190 (by decide) (fun h_190 => ?_) (fun h_190 => ?_)
                      · skip
                        obtain ⟨c_187, -, w_187⟩ := h_187.elim id (fun q => absurd q.2.1 (by omega))
                        have w2_187 := w_187.symm
                        subst w2_187
                        have c29 : Z 55 29 = 0 := Classical.byContradiction fun q => c_187 (by rw [hz9, if_neg q])
                        obtain ⟨s6, h6⟩ := ld_6 sZ c29
                        have w29 : V_85 55 29 = 0 := ld_85 s_85 h6
                        obtain ⟨s3, h3, kq, kt, km, kl⟩ := hOK w29
                        obtain ⟨cs, s4, xs, s5, hcs, hxs, hpa⟩ := ld_all h6 h3 kq.2 (fun s e => w81.trans (v_74 s e.1 e.2))
                        have krg := k_151 _ _ hxs
                        have kcs := k_147 _ _ hcs
                        have zt : ∀ a b : Int, 0 ≤ a → a < gO (okq (pGroup (V 68) (V 55 23) (sgS (V 68) (V 55 23) 0))) → 0 ≤ b → b < gO (okq (pGroup (V 68) (V 55 23) (sgS (V 68) (V 55 23) 0))) → Z 60 (gO (okq (pGroup (V 68) (V 55 23) (sgS (V 68) (V 55 23) 0))) * a + b) = gM (okq (pGroup (V 68) (V 55 23) (sgS (V 68) (V 55 23) 0))) a b := fun a b a0 a1 b0 b1 => ((fZ.2 60 _ (by decide)).trans ((f_151.2 60 _ (by decide) (by decide)).trans ((f_147.2 60 _ (by decide) (by decide) (by decide)).trans (hw 60 _ (by decide))))).trans (kt a b a0 a1 b0 b1)
                        have z12 : Z 55 12 = xs.length := (fZ.1 12 (by decide)).trans krg.1.1
                        have z11 : Z 55 11 = V_81 55 11 := (fZ.1 11 (by decide)).trans ((f_151.1 11 (by decide)).trans ((f_147.1 11 (by decide)).trans w11))
                        refine j_al0 hX dX12_load_195 rfl ?_
                        refine j_cVV0 (ci := 12) hX hG lk_X12_123 (ok_X12_takes kq.1 (z10.trans kq.2) zt (by rw [z11]; exact hw8) (by rw [z12]; omega)) (by decide) rfl (Nat.le_of_ble_eq_true rfl) (Nat.le_of_ble_eq_true rfl) (Nat.le_of_ble_eq_true rfl) rfl dX12_load_196 (fun V_196 h_196 => ?_)
                        obtain ⟨a1, a2, a3, a4, a5, a6, a7, a8, a9⟩ := h_196
                        refine j_al0 hX dX12_load_199 rfl ?_
                        refine j_getI hX hG fl_X12_142 (Or.inl rfl) (by decide) dX12_load_200 ?_
                        exact j_retI hR dX12_load_203 (by
      refine ⟨Or.inl ⟨rfl, (a8 0 (Or.inl rfl)).trans z0, _, hpa, a1, a2, ?_, fun e e0 e1 => ?_, a4.trans z12, by rw [a4, z12]; omega, fun k k0 k1 => ?_, (a8 29 (by omega)).trans c29, (a8 30 (by omega)).trans (ld_30 sZ c29), a7⟩, (a8 23 (by omega)).trans z23, by rw [a8 10 (by omega), z10]; exact hg8, by rw [a8 28 (by omega)]; exact z28, fun a b ha => (a9 a b (by simp; omega)).trans (L9.2 a b (by omega) (by omega))⟩
      · exact a3.trans z11
      · have en : V_196 55 3 = (V_81 55 10 * V_81 55 10 * (if V_81 55 11 = 2 then 1 else V_81 55 10)) := ld_n a2 (a3.trans z11) (a1.2.1.trans kq.2.symm)
        rw [a5 e e0 e1, fZ.2 61 e (by decide), f_151.2 61 e (by decide) (by decide), kcs e]
        exact casT_cm (hTW w29) e e0 (by rw [← en]; exact e1)
      · rw [a4] at k1
        rw [a6 k k0 k1, fZ.2 62 k (by decide)]
        exact rgs_g krg.1 k0 (by rw [z12] at k1; exact k1))
                      · skip
                        refine j_iconst hX dX12_load_193 ⟨by decide, by decide⟩ ?_
                        exact j_retI hR dX12_load_194 (by
      obtain ⟨c_187, -, w_187⟩ := h_187.elim (fun q => absurd q.2.1 (by omega)) id
      have c29 : Z 55 29 ≠ 0 := fun q => by rw [hz9, if_pos q] at c_187; exact absurd c_187 (by decide)
      obtain ⟨e9, h9, hw9⟩ := sZ.er c29
      rw [w_187]
      refine ⟨Or.inr ⟨rfl, up_s .., ⟨e9, ld_er h9 (fun s q s2 _ e => g81.trans (k_60 _ q s2 rfl e).2.1) (fun s e => w81.trans (v_74 s e.1 e.2)), (up_n _ (by decide)).trans hw9.2.2.1, (up_n _ (by decide)).trans hw9.2.2.2.1⟩, fL_t L9 (show fL Z _ from ⟨fun b hb => up_n _ (by omega), fun a b h1 _ => up_n _ (by omega)⟩)⟩, (up_n _ (by decide)).trans z23, by rw [up_n _ (by decide), z10]; exact hg8, by rw [up_n _ (by decide)]; exact z28, fun a b ha => (up_n _ (by omega)).trans (L9.2 a b (by omega) (by omega))⟩)
                    refine j_al0 hX dX12_load_174 rfl ?_
                    refine j_pVI0 (ci := 12) hX hG lk_X12_204 (ok_X12_isWrong ) (by decide) rfl (Nat.le_of_ble_eq_true rfl) (Nat.le_of_ble_eq_true rfl) (Nat.le_of_ble_eq_true rfl) rfl dX12_load_175 ?_
                    refine j_ifz_ne (tgt := 185) hX dX12_load_178 (by decide) (fun h_178 => ?_) (fun h_178 => ?_)
                    · skip
                      refine j_iconst hX dX12_load_185 ⟨by decide, by decide⟩ ?_
                      exact jn_186 _ (by first | exact (if_pos (Classical.byContradiction h_178)).symm | exact (if_neg h_178).symm)
                    · skip
                      refine j_iconst hX dX12_load_181 ⟨by decide, by decide⟩ ?_
                      refine j_goto (tgt := 186) hX dX12_load_182 (by decide) ?_
                      exact jn_186 _ (by first | exact (if_pos (Classical.byContradiction h_178)).symm | exact (if_neg h_178).symm)
                  refine j_al0 hX dX12_load_154 rfl ?_
                  refine j_pVI0 (ci := 12) hX hG lk_X12_204 (ok_X12_isWrong ) (by decide) rfl (Nat.le_of_ble_eq_true rfl) (Nat.le_of_ble_eq_true rfl) (Nat.le_of_ble_eq_true rfl) rfl dX12_load_155 ?_
                  refine j_ifz_ne (tgt := 173) hX dX12_load_158 (by decide) (fun h_158 => ?_) (fun h_158 => ?_)
                  · skip
                    refine j_fg2 ?_
                    exact jn_173 _ (by first | exact s_151.w h_158 _ | exact pe_n s_151 e68_V_151 e24_V_151 h_165 | exact pe_y s_151 e68_V_151 e24_V_151 (Classical.byContradiction h_158) h_165 s_170) (by first | exact fT_0 | exact f_170)
                  · skip
                    refine j_al0 hX dX12_load_161 rfl ?_
                    refine j_getI hX hG fl_X12_188 (Or.inl rfl) (by decide) dX12_load_162 ?_
                    refine j_if_eq (tgt := 173) hX dX12_load_165 (by decide) (fun h_165 => ?_) (fun h_165 => ?_)
                    · skip
                      refine j_fg2 ?_
                      exact jn_173 _ (by first | exact s_151.w h_158 _ | exact pe_n s_151 e68_V_151 e24_V_151 h_165 | exact pe_y s_151 e68_V_151 e24_V_151 (Classical.byContradiction h_158) h_165 s_170) (by first | exact fT_0 | exact f_170)
                    · skip
                      refine j_al0 hX dX12_load_168 rfl ?_
                      refine j_iconst hX dX12_load_169 ⟨by decide, by decide⟩ ?_
                      refine j_cVV1 (ci := 12) hX hG lk_X12_228 (ok_X12_fails s_151 (by decide)) (by decide) rfl (Nat.le_of_ble_eq_true rfl) (Nat.le_of_ble_eq_true rfl) (Nat.le_of_ble_eq_true rfl) rfl dX12_load_170 (fun V_170 h_170 => ?_)
                      obtain ⟨s_170, f_170⟩ := h_170
                      refine j_fg2 ?_
                      exact jn_173 _ (by first | exact s_151.w h_158 _ | exact pe_n s_151 e68_V_151 e24_V_151 h_165 | exact pe_y s_151 e68_V_151 e24_V_151 (Classical.byContradiction h_158) h_165 s_170) (by first | exact fT_0 | exact f_170)
                · skip
                  have w29 : V_85 55 29 = 0 := (hw 55 29 (by decide)).symm.trans (Classical.byContradiction h_126)
                  obtain ⟨s3, -, kq, kt, km, kl⟩ := hOK w29
                  have wid := all_d hg8 hw8 hi.1 (show i < _ by omega)
                  refine j_al0 hX dX12_load_129 rfl ?_
                  refine j_getR (q := 61) hX hG fl_X12_25 rfl rfl (by decide) dX12_load_130 ?_
                  refine j_il2 hX dX12_load_133 ?_
                  refine j_al0 hX dX12_load_134 rfl ?_
                  refine j_il2 hX dX12_load_135 ?_
                  refine j_pVI1 (ci := 12) hX hG lk_X12_282 (ok_X12_worth kq.1 (by rw [hw 55 10 (by decide), l10]; exact kq.2) (fun a b a0 a1 b0 b1 => (hw 60 _ (by decide)).trans (kt a b a0 a1 b0 b1)) (by rw [hw 55 11 (by decide), l11]; exact hw8) (by rw [hw 55 10 (by decide), l10, hw 55 11 (by decide), l11]; exact km.c (hw 55 31 (by decide)) (fun b => hw 63 b (by decide))) kl (by rw [hw 55 11 (by decide), l11, ← kq.2]; exact ⟨hi.1, wid⟩)) (by decide) rfl (Nat.le_of_ble_eq_true rfl) (Nat.le_of_ble_eq_true rfl) (Nat.le_of_ble_eq_true rfl) rfl dX12_load_136 ?_
                  refine j_eqS (st' := [vI (tabF (okq (pGroup (V 68) (V 55 23) (sgS (V 68) (V 55 23) 0))) (V_81 55 11) 0 (okd (tmF (V 68) (V 55 23) (V_81 55 10) (V_81 55 11) (r2F (V 68) (V 55 23) (pGroup (V 68) (V 55 23) (sgS (V 68) (V 55 23) 0))))) i), vI i, vA 61]) (by rw [hw 55 11 (by decide), l11]) ?_
                  refine j_iast (n := 216) hX hG (by decide) (by omega) dX12_load_139 ?_
                  refine j_inc2 hX dX12_load_140 rfl (by omega) ?_
                  refine j_goto (tgt := 117) hX dX12_load_143 (by decide) ?_
                  exact ih_117 _ _ (by omega) (fr_u hw (by decide)) (fun q => lt_stepI (fun j a b => by rw [up_n _ (by omega)]; exact hT8 q j a b) (up_s ..)) (by omega)
          exact lp_117 _ 0 _ ⟨by decide, by omega⟩ fr_0 (fun _ j a b => by omega) (Nat.lt_succ_self _)
        refine j_al0 hX dX12_load_88 rfl ?_
        refine j_getI hX hG fl_X12_110 (Or.inl rfl) (by decide) dX12_load_89 ?_
        refine j_al0 hX dX12_load_92 rfl ?_
        refine j_getI hX hG fl_X12_110 (Or.inl rfl) (by decide) dX12_load_93 ?_
        refine j_eqS (st' := [vI (V_81 55 10), vI (V_81 55 10)]) (by rw [l10]) ?_
        refine j_imul hX dX12_load_96 (by omega) ?_
        refine j_al0 hX dX12_load_97 rfl ?_
        refine j_getI hX hG fl_X12_113 (Or.inl rfl) (by decide) dX12_load_98 ?_
        refine j_iconst hX dX12_load_101 ⟨by decide, by decide⟩ ?_
        refine j_icmp_ne (tgt := 109) hX dX12_load_102 (by decide) (fun h_102 => ?_) (fun h_102 => ?_)
        · skip
          refine j_al0 hX dX12_load_109 rfl ?_
          refine j_getI hX hG fl_X12_110 (Or.inl rfl) (by decide) dX12_load_110 ?_
          refine j_fg1 ?_
          exact jn_113 _ (by first | exact (if_pos (l11.symm.trans h_102)).symm | exact ((if_neg (fun q => h_102 (l11.trans q))).trans l10.symm).symm)
        · skip
          refine j_iconst hX dX12_load_105 ⟨by decide, by decide⟩ ?_
          refine j_goto (tgt := 113) hX dX12_load_106 (by decide) ?_
          refine j_fg1 ?_
          exact jn_113 _ (by first | exact (if_pos (l11.symm.trans h_102)).symm | exact ((if_neg (fun q => h_102 (l11.trans q))).trans l10.symm).symm)
      · skip
        refine j_al0 hX dX12_load_42 rfl ?_
        refine j_getR (q := 64) hX hG fl_X12_34 rfl rfl (by decide) dX12_load_43 ?_
        refine j_il1 hX dX12_load_46 ?_
        refine j_iconst hX dX12_load_47 ⟨by decide, by decide⟩ ?_
        refine j_zast (n := 216) hX hG (by decide) (by omega) (by decide) dX12_load_48 ?_
        refine j_inc1 hX dX12_load_49 rfl (by omega) ?_
        refine j_goto (tgt := 35) hX dX12_load_52 (by decide) ?_
        exact ih_35 _ _ (by omega) (fr_u hy (by decide)) (lt_stepI (fun j a b => by rw [up_n _ (by omega)]; exact hD j a b) (up_s ..)) (by omega)
  exact lp_35 _ 0 _ ⟨by decide, by decide⟩ fr_0 (fun j a b => by omega) (Nat.lt_succ_self _)
set_option maxHeartbeats 4000000 in
theorem LKQ.err {t : Int} {q : Nat} {V W : VV} (h : LKQ t q V) (e : ∀ a ∈ relC, a ∉ ([1, 2, 6] : List Int) → ∀ b, W a b = V a b) (e5 : ∀ b : Int, 0 < b → b ∉ ([10, 11, 12, 23, 24, 25, 26, 27, 28, 29, 30, 31] : List Int) → W 55 b = V 55 b) (hTB : TB W) (h67 : 0 ≤ W 6 7 ∧ W 6 7 ≤ 22 * t) (h23 : W 55 23 = 0) (h28 : 0 ≤ W 55 28 ∧ W 55 28 ≤ 99) (h10 : 2 ≤ W 55 10 ∧ W 55 10 ≤ 6) (hl : W 2 1 = 0) (h5 : W 1 5 = W 55 29) (h6 : W 1 6 = W 55 30) : LKQ t q W := by
  have f3 : W 3 = V 3 := funext (e 3 (by decide) (by decide))
  have f13 : W 13 = V 13 := funext (e 13 (by decide) (by decide))
  have f14 : W 14 = V 14 := funext (e 14 (by decide) (by decide))
  have f15 : W 15 = V 15 := funext (e 15 (by decide) (by decide))
  have f16 : W 16 = V 16 := funext (e 16 (by decide) (by decide))
  have f19 : W 19 = V 19 := funext (e 19 (by decide) (by decide))
  have f23 : W 23 = V 23 := funext (e 23 (by decide) (by decide))
  have f24 : W 24 = V 24 := funext (e 24 (by decide) (by decide))
  have f25 : W 25 = V 25 := funext (e 25 (by decide) (by decide))
  have f26 : W 26 = V 26 := funext (e 26 (by decide) (by decide))
  have f27 : W 27 = V 27 := funext (e 27 (by decide) (by decide))
  have f28 : W 28 = V 28 := funext (e 28 (by decide) (by decide))
  have f33 : W 33 = V 33 := funext (e 33 (by decide) (by decide))
  have f34 : W 34 = V 34 := funext (e 34 (by decide) (by decide))
  have f35 : W 35 = V 35 := funext (e 35 (by decide) (by decide))
  have f36 : W 36 = V 36 := funext (e 36 (by decide) (by decide))
  have f37 : W 37 = V 37 := funext (e 37 (by decide) (by decide))
  have f38 : W 38 = V 38 := funext (e 38 (by decide) (by decide))
  have f42 : W 42 = V 42 := funext (e 42 (by decide) (by decide))
  have f43 : W 43 = V 43 := funext (e 43 (by decide) (by decide))
  have f44 : W 44 = V 44 := funext (e 44 (by decide) (by decide))
  have f47 : W 47 = V 47 := funext (e 47 (by decide) (by decide))
  have f48 : W 48 = V 48 := funext (e 48 (by decide) (by decide))
  have f56 : W 56 = V 56 := funext (e 56 (by decide) (by decide))
  have f57 : W 57 = V 57 := funext (e 57 (by decide) (by decide))
  have f58 : W 58 = V 58 := funext (e 58 (by decide) (by decide))
  have f59 : W 59 = V 59 := funext (e 59 (by decide) (by decide))
  have f65 : W 65 = V 65 := funext (e 65 (by decide) (by decide))
  have f66 : W 66 = V 66 := funext (e 66 (by decide) (by decide))
  have f67 : W 67 = V 67 := funext (e 67 (by decide) (by decide))
  have f68 : W 68 = V 68 := funext (e 68 (by decide) (by decide))
  have f74 : W 74 = V 74 := funext (e 74 (by decide) (by decide))
  have f77 : W 77 = V 77 := funext (e 77 (by decide) (by decide))
  have g1 := e5 1 (by decide) (by decide)
  have g2 := e5 2 (by decide) (by decide)
  have g3 := e5 3 (by decide) (by decide)
  have g4 := e5 4 (by decide) (by decide)
  have g5 := e5 5 (by decide) (by decide)
  have g21 := e5 21 (by decide) (by decide)
  have g38 := e5 38 (by decide) (by decide)
  have g39 := e5 39 (by decide) (by decide)
  have g40 := e5 40 (by decide) (by decide)
  have g45 := e5 45 (by decide) (by decide)
  have g46 := e5 46 (by decide) (by decide)
  clear e e5
  obtain ⟨hC, hM, hN⟩ := h
  refine ⟨?_, ?_, ?_⟩
  · unfold LKC PKC IKC BKC SLC GP RO TR IVP BASP OG at hC ⊢
    simp only [Int.reduceAdd, f3, f13, f14, f15, f16, f19, f23, f24, f25, f26, f27, f28, f33, f38, f42, f43, f44, f47, f48] at hC ⊢
    obtain ⟨c1, c2, c3, c4, c5, c6, c7, c8, _, c10, _, c12⟩ := hC
    exact ⟨c1, c2, c3, c4, c5, c6, c7, c8, hTB, c10, h67, c12⟩
  · unfold LKM IKM BKM MG MO TRM MIV MBP at hM ⊢
    simp only [f56, f57, f58, f59, f68, f74, f77, g1, g2, g3, g4, g5, g21, g38, g39, g40, g45, g46] at hM ⊢
    obtain ⟨p1, p2, p3, p4, p5, p6, p7, _, _, p10⟩ := hM
    exact ⟨p1, p2, p3, p4, p5, p6, ⟨by omega, by omega, p7.2.2⟩, h28, h10, p10⟩
  · unfold LNK HIS hix hrw at hN ⊢
    simp only [f3, f15, f16, f23, f24, f25, f26, f27, f28, f33, f34, f35, f36, f37, f58, f59, f65, f66, f67, f68, g1, g2, g3, g4, g5, g21] at hN ⊢
    obtain ⟨n1, n2, n3, n4, n5, n6, n7, _, n9, _, _, n12⟩ := hN
    exact ⟨n1, n2, n3, n4, n5, n6, n7, by omega, n9, h5, h6, n12⟩
theorem LKQ.mono {t : Int} {q : Nat} {V : VV} (h : LKQ t q V) : LKQ (t + 1) q V := by
  obtain ⟨⟨c1, c2, c3, c4, c5, c6, c7, c8, c9, c10, c11, c12, c13⟩, hM, hN⟩ := h
  exact ⟨⟨c1, c2, c3, c4, c5, c6, c7, c8, c9, ⟨c10.1, by omega⟩, ⟨c11.1, by omega⟩, ⟨c12.1, by omega⟩, c13⟩, hM, hN⟩
set_option maxHeartbeats 2000000 in
theorem cse_2 {X : Cx} {t : Int} {V : VV} {i : Int} {c s : Nat} (hX : Good X RL cL_law 9 13 466) (hR9 : LX X) (hi : 0 ≤ i ∧ i + 5 < yLn (cY X)) (hrm : c + 1 ≤ (cR X).cells ∧ s + 6 ≤ (cR X).slots) (ht9 : 0 ≤ t ∧ t ≤ 600) (hL0 : LKS t V) (hN : ∀ V', LKS (t + 1) V' → J X (GT (c + 1) (s + 6)) 2097 (ls9 i) [] V') : J X (GT c s) 384 (ls9 i) [] V := by
  obtain ⟨q, hL⟩ := hL0
  have hC := hL.1
  have hM := hL.2.1
  have hK := hL.2.2
  have g13 : V 13 1 = V 55 1 := hC.1.2.1.trans hM.1.2.1.symm
  have hM1 : ∀ V1, V1 = V → LKM q V1 := fun V1 e => e.symm ▸ hM
  have hR1 : ∀ V1 : VV, V1 = V → ∀ k, 0 ≤ k → k < V1 55 5 → 0 ≤ V1 59 k ∧ V1 59 k < gO q := fun V1 e k k0 k1 => by
    have h9 := (hM1 V1 e).2.2.2.2.1 k k0 k1
    rw [(hM1 V1 e).1.2.1] at h9
    exact h9
  have hn5 := hK.2.2.2.2.2.1
  have h59 := hK.2.2.2.2.2.2.1
  have h3 := hC.2.2.2.1
  have hrg := hC.2.2.2.2.2.1
  have h13 : V 13 1 = V 15 3 := hC.1.2.1.trans h3.symm
  have hTB : TB V := hC.2.2.2.2.2.2.2.2.1
  have h23 := hK.2.2.2.2.2.2.2.1
  have hpp := hK.2.2.2.2.2.2.2.2.1
  have hTM := hM.2.2.2.2.2.2.1
  have hv15 := hC.2.2.2.2.2.2.2.2.2.1
  have hv6 := hC.2.2.2.2.2.2.2.2.2.2.1
  have hv19 := hC.2.2.2.2.2.2.2.2.2.2.2.1
  have hver := hC.2.2.2.2.2.2.2.2.2.2.2.2.1
  have hcl := hC.2.2.2.2.2.2.1
  refine st_2 (lo9 := 169) (fr2 := 8) (lo2 := 172) hX hR9 hi hrm (by decide) (by decide) (ok_X11_load hTB (by omega) (by omega)) (fun E V' h => h.1) (fun k V1 hk => ok_X12_load_T ?_ ?_ ?_) (fun k V1 b V2 hk hq => ?_)
  · have m : ∀ a b : Int, 55 ≤ a → a ≠ 87 → V1 a b = V a b := fun a b h1 h2 => by
      rcases hk with ⟨x, V0, ⟨_, _, _, hf⟩, rfl, _⟩ | ⟨⟨_, _, _, _, hf⟩, _⟩
      · rw [up_n _ (by omega), hf a b (by simp; omega)]
      · exact hf a b (by simp; omega)
    rw [m 55 23 (by decide) (by decide)]
    exact ⟨hTM.1, hTM.2.1, fun p p0 p1 => by rw [m 68 p (by decide) (by decide)]; exact hTM.2.2 p p0 p1⟩
  · have m : ∀ a b : Int, 55 ≤ a → a ≠ 87 → V1 a b = V a b := fun a b h1 h2 => by
      rcases hk with ⟨x, V0, ⟨_, _, _, hf⟩, rfl, _⟩ | ⟨⟨_, _, _, _, hf⟩, _⟩
      · rw [up_n _ (by omega), hf a b (by simp; omega)]
      · exact hf a b (by simp; omega)
    rw [m 55 28 (by decide) (by decide)]
    exact hM.2.2.2.2.2.2.2.1
  · have m : ∀ a b : Int, 55 ≤ a → a ≠ 87 → V1 a b = V a b := fun a b h1 h2 => by
      rcases hk with ⟨x, V0, ⟨_, _, _, hf⟩, rfl, _⟩ | ⟨⟨_, _, _, _, hf⟩, _⟩
      · rw [up_n _ (by omega), hf a b (by simp; omega)]
      · exact hf a b (by simp; omega)
    rw [m 55 10 (by decide) (by decide)]
    exact hM.2.2.2.2.2.2.2.2.1
  · have m : ∀ a b : Int, 55 ≤ a → a ≠ 87 → V1 a b = V a b := fun a b h1 h2 => by
      rcases hk with ⟨x, V0, ⟨_, _, _, hf⟩, rfl, _⟩ | ⟨⟨_, _, _, _, hf⟩, _⟩
      · rw [up_n _ (by omega), hf a b (by simp; omega)]
      · exact hf a b (by simp; omega)
    have e68 : V1 68 = V 3 := funext fun p => (m 68 p (by decide) (by decide)).trans (hpp p)
    have e23 : V1 55 23 = V 2 1 := (m 55 23 (by decide) (by decide)).trans h23.symm
    obtain ⟨hq, q23, q10, q28, qf⟩ := hq
    rcases hk with ⟨x, V0, ⟨rfl, ⟨r, hr, c1, c2, c3, c4, c5, c6, c7, c8, c9⟩, ⟨d1, d2, d3, d4, d5, d6, d7, d8, d9, d10⟩, hf⟩, rfl, rfl⟩ | ⟨⟨_, ⟨e, he, h15, h16⟩, h21, h67, hf⟩, rfl⟩
    · rcases hq with ⟨rfl, q0, r', hr', m1, m2, m3, m4, m5, m6, m7, m8, m9, n1, n2, n3, n4, n5⟩ | ⟨_, _, ⟨e', he', _⟩, _⟩
      · rw [e68, e23, hr] at hr'
        have er : r = r' := Except.ok.inj hr'
        subst er
        have lo : ∀ a b : Int, a < 55 → V2 a b = V0 a b := fun a b h => by rw [qf a b (Or.inl h), up_n _ (by omega)]
        have e15 : ∀ b, V2 15 b = V0 15 b := fun b => lo 15 b (by decide)
        have ro : RO V2 15 := c2.sm e15
        have y1 : V2 15 3 = V2 55 1 := (e15 3).trans (c4.trans m1.2.1.symm)
        have y2 : V2 15 4 = V2 55 2 := (e15 4).trans (c5.trans m3.symm)
        have y4 : V2 15 6 = V2 55 4 := by
          rcases ro.2.1 with ⟨a1, a2⟩ | ⟨a1, a2⟩ <;> rcases m2.2.1 with ⟨b1, b2⟩ | ⟨b1, b2⟩
          · omega
          · omega
          · omega
          · rw [a2, b2, y1]
        have y3 : V2 15 5 = V2 55 3 := by rw [ro.2.2, m2.2.2, y4, y1]
        have tr : ∀ e, 0 ≤ e → e < V2 15 5 → 0 ≤ V2 16 e ∧ V2 16 e < V2 15 3 := fun e e0 e1 => by
          rw [e15 5] at e1
          rw [lo 16 e (by decide), e15 3]
          exact c3 e e0 e1
        have t58 : ∀ e, 0 ≤ e → e < V2 15 5 → V2 58 e = V2 16 e := fun e e0 e1 => by
          rw [m4 e e0 (by omega), lo 16 e (by decide), c6 e e0 (by rw [← e15 5]; exact e1)]
        have w23 : V2 23 1 = V0 23 1 := lo 23 1 (by decide)
        have z23 : V2 23 1 = V2 55 5 := w23.trans (c7.trans m5.symm)
        have t59 : ∀ k, 0 ≤ k → k < V2 23 1 → V2 59 k = V2 24 k := fun k k0 k1 => by
          rw [m7 k k0 (by omega), lo 24 k (by decide), (c9 k k0 (by omega)).1]
        have tg : ∀ k, 0 ≤ k → k < V2 23 1 → 0 ≤ V2 24 k ∧ V2 24 k < V2 15 3 := fun k k0 k1 => by
          rw [lo 24 k (by decide), e15 3, c4]
          exact (c9 k k0 (by omega)).2
        have v7 : V2 15 7 = V 15 7 + 1 := (e15 7).trans d3
        have w6 : V2 6 7 = V0 6 7 := lo 6 7 (by decide)
        have hold : ∀ a b : Int, a ∉ ([1, 2, 4, 5, 6, 7, 10, 11, 12, 13, 14, 15, 16, 23, 24, 25, 27, 33] : List Int) → a < 55 → V2 a b = V a b := fun a b h h1 => (lo a b h1).trans (hf a b h)
        have w38 := hold 38 3 (by decide) (by decide)
        have w42 := hold 42 1 (by decide) (by decide)
        have w44 := hold 44 4 (by decide) (by decide)
        have w19 := hold 19 7 (by decide) (by decide)
        have w2 : V2 2 1 = 0 := (lo 2 1 (by decide)).trans d7
        have w3 : ∀ p, V2 3 p = V 3 p := fun p => hold 3 p (by decide) (by decide)
        have w25 : V2 25 1 = 0 := (lo 25 1 (by decide)).trans d4
        have w27 : V2 27 1 = 0 := (lo 27 1 (by decide)).trans d5
        have w33 : V2 33 4 = 0 := (lo 33 4 (by decide)).trans d6
        have w335 : V2 33 5 = V 33 5 := (lo 33 5 (by decide)).trans (d10 5 (by decide))
        have s68 : ∀ p, V2 68 p = V 68 p := fun p => by rw [qf 68 p (Or.inr (by decide)), m 68 p (by decide) (by decide)]
        refine ⟨q0, fun _ => by rw [qf 87 0 (Or.inr (by decide)), up_s, ← w23]; exact z23, hN _ ⟨r.1, ⟨c1.sm (fun b => lo _ b (by decide)) (fun b => lo _ b (by decide)), ro, tr, (e15 3).trans c4, by rw [w23]; exact c8, tg, by rw [w335]; exact hcl, by rw [w33]; decide, ?_, by omega, by omega, by omega, by omega, fun h => ?_, fun h => ?_, fun h => ?_, ⟨Or.inl w25, Or.inl w27⟩⟩, ⟨m1, m2, fun e e0 e1 => ?_, m6, fun k k0 k1 => ?_, by rw [n3]; decide, ?_, q28, q10, fun h => absurd n4 h, fun h => absurd n5 h⟩, y1, y2, y3, y4, t58, z23, t59, by rw [w2, q23], fun p => by rw [s68, w3]; exact hpp p, by rw [lo 1 5 (by decide), d1, m8], by rw [lo 1 6 (by decide), d2, m9], by rw [w25, n1], by rw [w27, n2], fun k k0 k1 => by omega, fun k k0 k1 => by omega, by rw [w33, n3], fun j j0 j1 => by omega⟩⟩
        · unfold TB
          rw [w2]
          exact ⟨by decide, by decide, fun p p0 p1 => by rw [w3]; exact hTB.2.2 p p0 p1⟩
        · omega
        · omega
        · omega
        · rw [t58 e e0 (by omega), ← y1]
          exact tr e e0 (by omega)
        · rw [t59 k k0 (by omega), ← y1]
          exact tg k k0 (by omega)
        · rw [q23]
          exact ⟨by decide, by decide, fun p p0 p1 => by rw [s68]; exact hTM.2.2 p p0 p1⟩
      · rw [e68, e23, hr] at he'
        cases he'
    · rcases hq with ⟨_, _, r', hr', _⟩ | ⟨rfl, q0, ⟨e', he', k29, k30⟩, hfL⟩
      · rw [e68, e23, he] at hr'
        cases hr'
      · rw [e68, e23, he] at he'
        have ee : e = e' := Except.error.inj he'
        subst ee
        have lo : ∀ a b : Int, a < 55 → V2 a b = V1 a b := fun a b h => qf a b (Or.inl h)
        have w2 : V2 2 1 = 0 := (lo 2 1 (by decide)).trans h21
        have w6 : V2 6 7 = V1 6 7 := lo 6 7 (by decide)
        refine ⟨q0, fun h => absurd h (by decide), hN _ ⟨q, hL.mono.err (fun a ha hb b => ?_) (fun b h0 hb => ?_) ?_ (by omega) q23 q28 q10 w2 (by rw [lo 1 5 (by decide), h15, k29]) (by rw [lo 1 6 (by decide), h16, k30])⟩⟩
        · have h9 : a ≠ 55 ∧ (a < 60 ∨ 64 < a) := by
            unfold relC at ha
            simp only [List.mem_cons, List.not_mem_nil, or_false] at ha
            omega
          have h8 : a ≠ 4 ∧ a ≠ 5 ∧ a ≠ 7 ∧ a ≠ 10 ∧ a ≠ 11 ∧ a ≠ 12 := by
            unfold relC at ha
            simp only [List.mem_cons, List.not_mem_nil, or_false] at ha
            omega
          simp at hb
          rw [hfL.2 a b h9.1 h9.2, hf a b (by simp; omega)]
        · simp at hb
          rw [hfL.1 b (by omega), m 55 b (by decide) (by decide)]
        · unfold TB
          rw [w2]
          exact ⟨by decide, by decide, fun p p0 p1 => by rw [lo 3 p (by decide), hf 3 p (by decide)]; exact hTB.2.2 p p0 p1⟩
