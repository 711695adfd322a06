def KSM (V V' : VV) : Prop := V' 55 45 = 1 ∧ MBP V' (V 58) (V 55 1) (V 55 4) (V 55 3) ∧ fS V V'
theorem MBP_c {V W : VV} {T : Int → Int} {g N n : Int} (h46 : W 55 46 = V 55 46) (h77 : W 77 = V 77) (h : MBP V T g N n) : MBP W T g N n := by unfold MBP; rw [h46, h77]; exact h
theorem KSM.u0 {V W : VV} (h : KSM V W) (x : Int) : KSM V (up W 55 0 x) := ⟨by rw [up_n _ (by decide)]; exact h.1, MBP_c (up_n _ (by decide)) (up_r _ (by decide)) h.2.1, fS_u h.2.2 (Or.inl rfl)⟩
theorem KSM.d {V W : VV} (ho : MO V) (h : KSM V W) : 0 ≤ W 55 46 ∧ W 55 46 ≤ 6 := by
  obtain ⟨C, -, hB⟩ := h.2.1
  have hb := ho.b
  rw [hB.1]
  have := cnF_b C (f := V 55 1) (by omega)
  omega
theorem KSM.vok {V W : VV} {r : Int} (ho : MO V) (h : KSM V W) (hr : 0 ≤ r ∧ r < W 55 46) : VOK (V 55 1) (fun s => W 77 (12 * r + 2 * s)) (fun s => W 77 (12 * r + 2 * s + 1)) := by
  obtain ⟨C, hC, hB⟩ := h.2.1
  have hb := ho.b
  obtain ⟨f, f0, f1, f2, f3⟩ := cnF_ex (C := C) hr.1 (V 55 1).toNat (by have e : (((V 55 1).toNat : Nat) : Int) = V 55 1 := (by omega); rw [e, ← hB.1]; exact hr.2)
  have := VOK_of hb.1 hC ⟨f0, by omega, f2⟩ (hB.2 f f0 (by omega) f2)
  rw [f3] at this
  exact this
set_option maxHeartbeats 4000000 in
theorem ok_X12_sums {V : VV} (hmo : MO V) (htm : TRM V) (hbk : V 55 45 ≠ 0 → MBP V (V 58) (V 55 1) (V 55 4) (V 55 3)) : Ok NA yX12_sums cX12_sums 1 (some .int) 4 100 [vA 55] V (pI (fun x9 V' => x9 = V' 55 46 ∧ KSM V V' ∧ V' 55 0 = 0)) := by
  refine Ok.intro (by decide +kernel) (Nat.le_of_ble_eq_true rfl) (fun X G hX hG hR hoa hoV => ?_)
  show J X G 0 [vA 55] [] V
  refine j_al0 hX dX12_sums_0 rfl ?_
  refine j_iconst hX dX12_sums_1 ⟨by decide, by decide⟩ ?_
  refine j_putI hX hG fp_X12_126 rfl (by decide) dX12_sums_2 ?_
  obtain ⟨U, hU⟩ : ∃ U, U = up V 55 0 0 := ⟨_, rfl⟩
  rw [← hU]
  have u0 : U 55 0 = 0 := by rw [hU]; exact up_s ..
  have uF : ∀ b, b ≠ 0 → U 55 b = V 55 b := fun b hb => by rw [hU]; exact up_n _ (fun q => hb q.2)
  have uC : ∀ a b, a ≠ 55 → U a b = V a b := fun a b ha => by rw [hU]; exact up_n _ (fun q => ha q.1)
  have moU : MO U := hmo.t uF
  have e58 : U 58 = V 58 := funext fun b => uC 58 b (by decide)
  have e1 := uF 1 (by decide)
  have e3 := uF 3 (by decide)
  have e4 := uF 4 (by decide)
  have tmU : TRM U := by unfold TRM; rw [e1, e3, e58]; exact htm
  have bkU : U 55 45 ≠ 0 → MBP U (U 58) (U 55 1) (U 55 4) (U 55 3) := fun q => by
    rw [e58, e1, e3, e4]
    exact MBP_c (uF 46 (by decide)) (funext fun b => uC 77 b (by decide)) (hbk (by rw [← uF 45 (by decide)]; exact q))
  have fU : fS V U := by rw [hU]; exact fS_u fS_0 (Or.inl rfl)
  refine j_al0 hX dX12_sums_5 rfl ?_
  refine j_cVV0 (ci := 12) hX hG lk_X12_397 (ok_X12_laysSums moU tmU bkU) (by decide) rfl (Nat.le_of_ble_eq_true rfl) (Nat.le_of_ble_eq_true rfl) (Nat.le_of_ble_eq_true rfl) rfl dX12_sums_6 (fun V_6 h_6 => ?_)
  obtain ⟨k_6, m_6, f_6, z_6⟩ := h_6
  rw [e58, e1, e3, e4] at m_6
  have v0 : V_6 55 0 = 0 := z_6.trans u0
  have ks : KSM V V_6 := ⟨k_6, m_6, fS_t fU f_6⟩
  have hb9 := hmo.b
  have hD9 := ks.d hmo
  have k1 : V_6 55 1 = V 55 1 := ks.2.2.1 1 (by decide) (by decide) (by decide)
  refine j_al0 hX dX12_sums_9 rfl ?_
  refine j_getI hX hG fl_X12_388 (Or.inl rfl) (by decide) dX12_sums_10 ?_
  exact j_retI hR dX12_sums_13 ⟨rfl, ks, v0⟩
set_option maxHeartbeats 4000000 in
theorem ok_X12_sum {V : VV} {r s p : Int} (hmo : MO V) (htm : TRM V) (hbk : V 55 45 ≠ 0 → MBP V (V 58) (V 55 1) (V 55 4) (V 55 3)) : Ok NA yX12_sum cX12_sum 4 (some .long) 4 100 [vA 55, vI r, vI s, vI p] V (pL (fun x9 V' => ((((0 ≤ r ∧ r < V' 55 46) ∧ (0 ≤ s ∧ s < V 55 1)) ∧ (0 ≤ p ∧ p ≤ 1) ∧ x9 = V' 77 (12 * r + 2 * s + p) ∧ V' 55 0 = 0) ∨ (¬ ((0 ≤ r ∧ r < V' 55 46) ∧ (0 ≤ s ∧ s < V 55 1)) ∧ x9 = 0 ∧ V' 55 0 = 1) ∨ (((0 ≤ r ∧ r < V' 55 46) ∧ (0 ≤ s ∧ s < V 55 1)) ∧ ¬ (0 ≤ p ∧ p ≤ 1) ∧ x9 = 0 ∧ V' 55 0 = 2)) ∧ KSM V V')) := by
  refine Ok.intro (by decide +kernel) (Nat.le_of_ble_eq_true rfl) (fun X G hX hG hR hoa hoV => ?_)
  show J X G 0 [vA 55, vI r, vI s, vI p] [] V
  refine j_al0 hX dX12_sum_0 rfl ?_
  refine j_iconst hX dX12_sum_1 ⟨by decide, by decide⟩ ?_
  refine j_putI hX hG fp_X12_126 rfl (by decide) dX12_sum_2 ?_
  obtain ⟨U, hU⟩ : ∃ U, U = up V 55 0 0 := ⟨_, rfl⟩
  rw [← hU]
  have u0 : U 55 0 = 0 := by rw [hU]; exact up_s ..
  have uF : ∀ b, b ≠ 0 → U 55 b = V 55 b := fun b hb => by rw [hU]; exact up_n _ (fun q => hb q.2)
  have uC : ∀ a b, a ≠ 55 → U a b = V a b := fun a b ha => by rw [hU]; exact up_n _ (fun q => ha q.1)
  have moU : MO U := hmo.t uF
  have e58 : U 58 = V 58 := funext fun b => uC 58 b (by decide)
  have e1 := uF 1 (by decide)
  have e3 := uF 3 (by decide)
  have e4 := uF 4 (by decide)
  have tmU : TRM U := by unfold TRM; rw [e1, e3, e58]; exact htm
  have bkU : U 55 45 ≠ 0 → MBP U (U 58) (U 55 1) (U 55 4) (U 55 3) := fun q => by
    rw [e58, e1, e3, e4]
    exact MBP_c (uF 46 (by decide)) (funext fun b => uC 77 b (by decide)) (hbk (by rw [← uF 45 (by decide)]; exact q))
  have fU : fS V U := by rw [hU]; exact fS_u fS_0 (Or.inl rfl)
  refine j_al0 hX dX12_sum_5 rfl ?_
  refine j_cVV0 (ci := 12) hX hG lk_X12_397 (ok_X12_laysSums moU tmU bkU) (by decide) rfl (Nat.le_of_ble_eq_true rfl) (Nat.le_of_ble_eq_true rfl) (Nat.le_of_ble_eq_true rfl) rfl dX12_sum_6 (fun V_6 h_6 => ?_)
  obtain ⟨k_6, m_6, f_6, z_6⟩ := h_6
  rw [e58, e1, e3, e4] at m_6
  have v0 : V_6 55 0 = 0 := z_6.trans u0
  have ks : KSM V V_6 := ⟨k_6, m_6, fS_t fU f_6⟩
  have hb9 := hmo.b
  have hD9 := ks.d hmo
  have k1 : V_6 55 1 = V 55 1 := ks.2.2.1 1 (by decide) (by decide) (by decide)
  have jn_37 : ∀ (z : Int), (z = if (0 ≤ r ∧ r < V_6 55 46) ∧ (0 ≤ s ∧ s < V 55 1) then 1 else 0) → J X G 37 [vA 55, vI r, vI s, vI p] [vI z, vA 55] V_6 := by
    intro z hz
    refine j_iconst hX dX12_sum_37 ⟨by decide, by decide⟩ ?_
    refine j_cVI2 (ci := 12) hX hG lk_X12_168 (ok_X12_may v0 (by decide)) (by decide) rfl (Nat.le_of_ble_eq_true rfl) (Nat.le_of_ble_eq_true rfl) (Nat.le_of_ble_eq_true rfl) rfl dX12_sum_38 (fun x_38 V_38 h_38 => ?_)
    skip
    refine j_if_eq (tgt := 76) hX dX12_sum_41 (by decide) (fun h_41 => ?_) (fun h_41 => ?_)
    · skip
      refine j_lconst (x := 0) hX dX12_sum_76 rfl ⟨by decide, by decide⟩ ?_
      exact j_retL hR dX12_sum_77 (by
      first
      | exact ⟨Or.inl ⟨c9, c8, rfl, v0⟩, ks⟩
      | exact (by
          obtain ⟨c_52, -, w_52⟩ := h_52.elim (fun q => absurd q.2.1 (by omega)) id
          rw [w_52]
          refine ⟨Or.inr (Or.inr ⟨?_, fun q => ?_, rfl, up_s ..⟩), ks.u0 2⟩
          · rw [up_n _ (by decide)]; exact c9
          · rw [if_pos q] at c_52; exact absurd c_52 (by decide))
      | exact (by
          obtain ⟨c_38, -, w_38⟩ := h_38.elim (fun q => absurd q.2.1 (by omega)) id
          rw [w_38]
          refine ⟨Or.inr (Or.inl ⟨fun q => ?_, rfl, up_s ..⟩), ks.u0 1⟩
          rw [up_n _ (by decide)] at q
          rw [hz, if_pos q] at c_38; exact absurd c_38 (by decide)))
    · skip
      obtain ⟨c_38, -, w_38⟩ := h_38.elim id (fun q => absurd q.2.1 (by omega))
      have w2_38 := w_38.symm
      subst w2_38
      have c9 : (0 ≤ r ∧ r < V_6 55 46) ∧ (0 ≤ s ∧ s < V 55 1) := Classical.byContradiction fun q => c_38 (by rw [hz, if_neg q])
      refine j_al0 hX dX12_sum_44 rfl ?_
      refine j_il3 hX dX12_sum_45 ?_
      refine j_iconst hX dX12_sum_46 ⟨by decide, by decide⟩ ?_
      refine j_iconst hX dX12_sum_47 ⟨by decide, by decide⟩ ?_
      refine j_pSI3 hX hG lk_X12_172 (ok_X12_isIn ) (Nat.le_of_ble_eq_true rfl) (Nat.le_of_ble_eq_true rfl) (Nat.le_of_ble_eq_true rfl) rfl dX12_sum_48 ?_
      refine j_iconst hX dX12_sum_51 ⟨by decide, by decide⟩ ?_
      refine j_cVI2 (ci := 12) hX hG lk_X12_168 (ok_X12_may v0 (by decide)) (by decide) rfl (Nat.le_of_ble_eq_true rfl) (Nat.le_of_ble_eq_true rfl) (Nat.le_of_ble_eq_true rfl) rfl dX12_sum_52 (fun x_52 V_52 h_52 => ?_)
      skip
      refine j_if_eq (tgt := 76) hX dX12_sum_55 (by decide) (fun h_55 => ?_) (fun h_55 => ?_)
      · skip
        refine j_lconst (x := 0) hX dX12_sum_76 rfl ⟨by decide, by decide⟩ ?_
        exact j_retL hR dX12_sum_77 (by
      first
      | exact ⟨Or.inl ⟨c9, c8, rfl, v0⟩, ks⟩
      | exact (by
          obtain ⟨c_52, -, w_52⟩ := h_52.elim (fun q => absurd q.2.1 (by omega)) id
          rw [w_52]
          refine ⟨Or.inr (Or.inr ⟨?_, fun q => ?_, rfl, up_s ..⟩), ks.u0 2⟩
          · rw [up_n _ (by decide)]; exact c9
          · rw [if_pos q] at c_52; exact absurd c_52 (by decide))
      | exact (by
          obtain ⟨c_38, -, w_38⟩ := h_38.elim (fun q => absurd q.2.1 (by omega)) id
          rw [w_38]
          refine ⟨Or.inr (Or.inl ⟨fun q => ?_, rfl, up_s ..⟩), ks.u0 1⟩
          rw [up_n _ (by decide)] at q
          rw [hz, if_pos q] at c_38; exact absurd c_38 (by decide)))
      · skip
        obtain ⟨c_52, -, w_52⟩ := h_52.elim id (fun q => absurd q.2.1 (by omega))
        have w2_52 := w_52.symm
        subst w2_52
        have c8 : 0 ≤ p ∧ p ≤ 1 := Classical.byContradiction fun q => c_52 (by rw [if_neg q])
        refine j_al0 hX dX12_sum_58 rfl ?_
        refine j_getR (q := 77) hX hG fl_X12_80 rfl rfl (by decide) dX12_sum_59 ?_
        refine j_bipush hX dX12_sum_62 (by decide) ⟨by decide, by decide⟩ ?_
        refine j_il1 hX dX12_sum_64 ?_
        refine j_imul hX dX12_sum_65 (by omega) ?_
        refine j_iconst hX dX12_sum_66 ⟨by decide, by decide⟩ ?_
        refine j_il2 hX dX12_sum_67 ?_
        refine j_imul hX dX12_sum_68 (by omega) ?_
        refine j_iadd hX dX12_sum_69 (by omega) ?_
        refine j_il3 hX dX12_sum_70 ?_
        refine j_iadd hX dX12_sum_71 (by omega) ?_
        refine j_lald (n := 72) hX hG (by decide) (by omega) dX12_sum_72 ?_
        refine j_goto (tgt := 77) hX dX12_sum_73 (by decide) ?_
        exact j_retL hR dX12_sum_77 (by
      first
      | exact ⟨Or.inl ⟨c9, c8, rfl, v0⟩, ks⟩
      | exact (by
          obtain ⟨c_52, -, w_52⟩ := h_52.elim (fun q => absurd q.2.1 (by omega)) id
          rw [w_52]
          refine ⟨Or.inr (Or.inr ⟨?_, fun q => ?_, rfl, up_s ..⟩), ks.u0 2⟩
          · rw [up_n _ (by decide)]; exact c9
          · rw [if_pos q] at c_52; exact absurd c_52 (by decide))
      | exact (by
          obtain ⟨c_38, -, w_38⟩ := h_38.elim (fun q => absurd q.2.1 (by omega)) id
          rw [w_38]
          refine ⟨Or.inr (Or.inl ⟨fun q => ?_, rfl, up_s ..⟩), ks.u0 1⟩
          rw [up_n _ (by decide)] at q
          rw [hz, if_pos q] at c_38; exact absurd c_38 (by decide)))
  refine j_al0 hX dX12_sum_9 rfl ?_
  refine j_il1 hX dX12_sum_10 ?_
  refine j_iconst hX dX12_sum_11 ⟨by decide, by decide⟩ ?_
  refine j_al0 hX dX12_sum_12 rfl ?_
  refine j_getI hX hG fl_X12_388 (Or.inl rfl) (by decide) dX12_sum_13 ?_
  refine j_iconst hX dX12_sum_16 ⟨by decide, by decide⟩ ?_
  refine j_isub hX dX12_sum_17 (by omega) ?_
  refine j_pSI3 hX hG lk_X12_172 (ok_X12_isIn ) (Nat.le_of_ble_eq_true rfl) (Nat.le_of_ble_eq_true rfl) (Nat.le_of_ble_eq_true rfl) rfl dX12_sum_18 ?_
  refine j_ifz_eq (tgt := 36) hX dX12_sum_21 (by decide) (fun h_21 => ?_) (fun h_21 => ?_)
  · skip
    refine j_iconst hX dX12_sum_36 ⟨by decide, by decide⟩ ?_
    exact jn_37 _ (by rw [k1] at *; first | exact (if_pos (by omega)).symm | exact (if_neg (by omega)).symm)
  · skip
    refine j_al0 hX dX12_sum_24 rfl ?_
    refine j_il2 hX dX12_sum_25 ?_
    refine j_pVI1 (ci := 12) hX hG lk_X12_290 (ok_X12_isState (by rw [k1]; exact hb9.1)) (by decide) rfl (Nat.le_of_ble_eq_true rfl) (Nat.le_of_ble_eq_true rfl) (Nat.le_of_ble_eq_true rfl) rfl dX12_sum_26 ?_
    refine j_ifz_eq (tgt := 36) hX dX12_sum_29 (by decide) (fun h_29 => ?_) (fun h_29 => ?_)
    · skip
      refine j_iconst hX dX12_sum_36 ⟨by decide, by decide⟩ ?_
      exact jn_37 _ (by rw [k1] at *; first | exact (if_pos (by omega)).symm | exact (if_neg (by omega)).symm)
    · skip
      refine j_iconst hX dX12_sum_32 ⟨by decide, by decide⟩ ?_
      refine j_goto (tgt := 37) hX dX12_sum_33 (by decide) ?_
      exact jn_37 _ (by rw [k1] at *; first | exact (if_pos (by omega)).symm | exact (if_neg (by omega)).symm)
set_option maxHeartbeats 4000000 in
theorem ok_X12_value {V : VV} {r p : Int} (hmo : MO V) (htm : TRM V) (hbk : V 55 45 ≠ 0 → MBP V (V 58) (V 55 1) (V 55 4) (V 55 3)) (hnm : 1 ≤ V 55 5 ∧ V 55 5 ≤ 16) (hrn : ∀ k, 0 ≤ k → k < V 55 5 → 0 ≤ V 59 k ∧ V 59 k < V 55 1) : Ok NA yX12_value cX12_value 11 (some .long) 4 100 [vA 55, vI r, vI p] V (pL (fun x9 V' => (((0 ≤ r ∧ r < V' 55 46) ∧ (0 ≤ p ∧ p ≤ 1) ∧ x9 = (if p = 0 then (valF (fun s => V' 77 (12 * r + 2 * s)) (fun s => V' 77 (12 * r + 2 * s + 1)) (V 59) (V 55 5).toNat).1 else (valF (fun s => V' 77 (12 * r + 2 * s)) (fun s => V' 77 (12 * r + 2 * s + 1)) (V 59) (V 55 5).toNat).2) ∧ V' 55 0 = 0) ∨ (¬ (0 ≤ r ∧ r < V' 55 46) ∧ x9 = 0 ∧ V' 55 0 = 1) ∨ ((0 ≤ r ∧ r < V' 55 46) ∧ ¬ (0 ≤ p ∧ p ≤ 1) ∧ x9 = 0 ∧ V' 55 0 = 2)) ∧ KSM V V')) := by
  refine Ok.intro (by decide +kernel) (Nat.le_of_ble_eq_true rfl) (fun X G hX hG hR hoa hoV => ?_)
  show J X G 0 [vA 55, vI r, vI p, vU, vU, vU, vU, vU, vU, vU, vU] [] V
  refine j_al0 hX dX12_value_0 rfl ?_
  refine j_iconst hX dX12_value_1 ⟨by decide, by decide⟩ ?_
  refine j_putI hX hG fp_X12_126 rfl (by decide) dX12_value_2 ?_
  obtain ⟨U, hU⟩ : ∃ U, U = up V 55 0 0 := ⟨_, rfl⟩
  rw [← hU]
  have u0 : U 55 0 = 0 := by rw [hU]; exact up_s ..
  have uF : ∀ b, b ≠ 0 → U 55 b = V 55 b := fun b hb => by rw [hU]; exact up_n _ (fun q => hb q.2)
  have uC : ∀ a b, a ≠ 55 → U a b = V a b := fun a b ha => by rw [hU]; exact up_n _ (fun q => ha q.1)
  have moU : MO U := hmo.t uF
  have e58 : U 58 = V 58 := funext fun b => uC 58 b (by decide)
  have e1 := uF 1 (by decide)
  have e3 := uF 3 (by decide)
  have e4 := uF 4 (by decide)
  have tmU : TRM U := by unfold TRM; rw [e1, e3, e58]; exact htm
  have bkU : U 55 45 ≠ 0 → MBP U (U 58) (U 55 1) (U 55 4) (U 55 3) := fun q => by
    rw [e58, e1, e3, e4]
    exact MBP_c (uF 46 (by decide)) (funext fun b => uC 77 b (by decide)) (hbk (by rw [← uF 45 (by decide)]; exact q))
  have fU : fS V U := by rw [hU]; exact fS_u fS_0 (Or.inl rfl)
  refine j_al0 hX dX12_value_5 rfl ?_
  refine j_cVV0 (ci := 12) hX hG lk_X12_397 (ok_X12_laysSums moU tmU bkU) (by decide) rfl (Nat.le_of_ble_eq_true rfl) (Nat.le_of_ble_eq_true rfl) (Nat.le_of_ble_eq_true rfl) rfl dX12_value_6 (fun V_6 h_6 => ?_)
  obtain ⟨k_6, m_6, f_6, z_6⟩ := h_6
  rw [e58, e1, e3, e4] at m_6
  have v0 : V_6 55 0 = 0 := z_6.trans u0
  have ks : KSM V V_6 := ⟨k_6, m_6, fS_t fU f_6⟩
  have hb9 := hmo.b
  have hD9 := ks.d hmo
  have k1 : V_6 55 1 = V 55 1 := ks.2.2.1 1 (by decide) (by decide) (by decide)
  refine j_al0 hX dX12_value_9 rfl ?_
  refine j_il1 hX dX12_value_10 ?_
  refine j_iconst hX dX12_value_11 ⟨by decide, by decide⟩ ?_
  refine j_al0 hX dX12_value_12 rfl ?_
  refine j_getI hX hG fl_X12_388 (Or.inl rfl) (by decide) dX12_value_13 ?_
  refine j_iconst hX dX12_value_16 ⟨by decide, by decide⟩ ?_
  refine j_isub hX dX12_value_17 (by omega) ?_
  refine j_pSI3 hX hG lk_X12_172 (ok_X12_isIn ) (Nat.le_of_ble_eq_true rfl) (Nat.le_of_ble_eq_true rfl) (Nat.le_of_ble_eq_true rfl) rfl dX12_value_18 ?_
  refine j_iconst hX dX12_value_21 ⟨by decide, by decide⟩ ?_
  refine j_cVI2 (ci := 12) hX hG lk_X12_168 (ok_X12_may v0 (by decide)) (by decide) rfl (Nat.le_of_ble_eq_true rfl) (Nat.le_of_ble_eq_true rfl) (Nat.le_of_ble_eq_true rfl) rfl dX12_value_22 (fun x_22 V_22 h_22 => ?_)
  skip
  refine j_if_eq (tgt := 42) hX dX12_value_25 (by decide) (fun h_25 => ?_) (fun h_25 => ?_)
  · skip
    refine j_lconst (x := 0) hX dX12_value_42 rfl ⟨by decide, by decide⟩ ?_
    exact j_retL hR dX12_value_43 (by
      first
      | exact (by
          obtain ⟨c_36, -, w_36⟩ := h_36.elim (fun q => absurd q.2.1 (by omega)) id
          rw [w_36]
          refine ⟨Or.inr (Or.inr ⟨?_, fun q => ?_, rfl, up_s ..⟩), ks.u0 2⟩
          · rw [up_n _ (by decide)]; exact c9
          · rw [if_pos q] at c_36; exact absurd c_36 (by decide))
      | exact (by
          obtain ⟨c_22, -, w_22⟩ := h_22.elim (fun q => absurd q.2.1 (by omega)) id
          rw [w_22]
          refine ⟨Or.inr (Or.inl ⟨fun q => ?_, rfl, up_s ..⟩), ks.u0 1⟩
          rw [up_n _ (by decide)] at q
          rw [if_pos (by omega)] at c_22; exact absurd c_22 (by decide)))
  · skip
    obtain ⟨c_22, -, w_22⟩ := h_22.elim id (fun q => absurd q.2.1 (by omega))
    have w2_22 := w_22.symm
    subst w2_22
    have c9 : 0 ≤ r ∧ r < V_6 55 46 := Classical.byContradiction fun q => c_22 (by rw [if_neg (by omega)])
    refine j_al0 hX dX12_value_28 rfl ?_
    refine j_il2 hX dX12_value_29 ?_
    refine j_iconst hX dX12_value_30 ⟨by decide, by decide⟩ ?_
    refine j_iconst hX dX12_value_31 ⟨by decide, by decide⟩ ?_
    refine j_pSI3 hX hG lk_X12_172 (ok_X12_isIn ) (Nat.le_of_ble_eq_true rfl) (Nat.le_of_ble_eq_true rfl) (Nat.le_of_ble_eq_true rfl) rfl dX12_value_32 ?_
    refine j_iconst hX dX12_value_35 ⟨by decide, by decide⟩ ?_
    refine j_cVI2 (ci := 12) hX hG lk_X12_168 (ok_X12_may v0 (by decide)) (by decide) rfl (Nat.le_of_ble_eq_true rfl) (Nat.le_of_ble_eq_true rfl) (Nat.le_of_ble_eq_true rfl) rfl dX12_value_36 (fun x_36 V_36 h_36 => ?_)
    skip
    refine j_if_ne (tgt := 44) hX dX12_value_39 (by decide) (fun h_39 => ?_) (fun h_39 => ?_)
    · skip
      obtain ⟨c_36, -, w_36⟩ := h_36.elim id (fun q => absurd q.2.1 (by omega))
      have w2_36 := w_36.symm
      subst w2_36
      have c8 : 0 ≤ p ∧ p ≤ 1 := Classical.byContradiction fun q => c_36 (by rw [if_neg q])
      have hv := ks.vok hmo c9
      obtain ⟨D9, D0, D1, D2⟩ := hv.2
      have f5_6 : V_6 55 5 = V 55 5 := ks.2.2.1 5 (by decide) (by decide) (by decide)
      have f59_6 : V_6 59 = V 59 := funext fun b => ks.2.2.2 59 b (by decide) (by decide)
      refine j_lconst (x := 0) hX dX12_value_44 rfl ⟨by decide, by decide⟩ ?_
      refine j_ls3 hX dX12_value_45 rfl ?_
      refine j_lconst (x := 1) hX dX12_value_46 rfl ⟨by decide, by decide⟩ ?_
      refine j_ls5 hX dX12_value_47 rfl ?_
      refine j_iconst hX dX12_value_49 ⟨by decide, by decide⟩ ?_
      refine j_is7 hX dX12_value_50 rfl ?_
      have lp_52 : ∀ (f9 : Nat) (k : Int), (0 ≤ k ∧ k ≤ V 55 5) → ((V 55 5 - k).toNat) < f9 → J X G 52 [vA 55, vI r, vI p, vL ((valF (fun s => V_6 77 (12 * r + 2 * s)) (fun s => V_6 77 (12 * r + 2 * s + 1)) (V 59) k.toNat).1), vU, vL ((valF (fun s => V_6 77 (12 * r + 2 * s)) (fun s => V_6 77 (12 * r + 2 * s + 1)) (V 59) k.toNat).2), vU, vI k, vU, vU, vU] [] V_6 := by
        intro f9
        induction f9 with
        | zero => intro k _ hm; exact absurd hm (Nat.not_lt_zero _)
        | succ f9 ih_52 =>
          intro k hk hm
          refine j_il7 hX dX12_value_52 ?_
          refine j_al0 hX dX12_value_54 rfl ?_
          refine j_getI hX hG fl_X12_142 (Or.inl rfl) (by decide) dX12_value_55 ?_
          refine j_fx (x := V 55 5) (by first | assumption | rfl) ?_
          refine j_icmp_ge (tgt := 140) hX dX12_value_58 (by decide) (fun h_58 => ?_) (fun h_58 => ?_)
          · skip
            have ek : k = V 55 5 := by omega
            rw [ek]
            refine j_il2 hX dX12_value_140 ?_
            refine j_if_ne (tgt := 148) hX dX12_value_141 (by decide) (fun h_141 => ?_) (fun h_141 => ?_)
            · skip
              refine j_ll5 hX dX12_value_148 ?_
              exact j_retL hR dX12_value_150 (by first | exact ⟨Or.inl ⟨c9, c8, (if_pos h_141).symm, v0⟩, ks⟩ | exact ⟨Or.inl ⟨c9, c8, (if_neg h_141).symm, v0⟩, ks⟩)
            · skip
              refine j_ll3 hX dX12_value_144 ?_
              refine j_goto (tgt := 150) hX dX12_value_145 (by decide) ?_
              exact j_retL hR dX12_value_150 (by first | exact ⟨Or.inl ⟨c9, c8, (if_pos h_141).symm, v0⟩, ks⟩ | exact ⟨Or.inl ⟨c9, c8, (if_neg h_141).symm, v0⟩, ks⟩)
          · skip
            have hr9 := hrn k hk.1 (by omega)
            have hvb := val_b hv ⟨D0, D2⟩ k.toNat (fun j j0 j1 => hrn j j0 (by omega))
            obtain ⟨b0, b1, b2⟩ := hvb
            obtain ⟨t9, ht9⟩ : ∃ t9, t9 = (valF (fun s => V_6 77 (12 * r + 2 * s)) (fun s => V_6 77 (12 * r + 2 * s + 1)) (V 59) k.toNat).1 := ⟨_, rfl⟩
            obtain ⟨c9q, hc9⟩ : ∃ c9q, c9q = (valF (fun s => V_6 77 (12 * r + 2 * s)) (fun s => V_6 77 (12 * r + 2 * s + 1)) (V 59) k.toNat).2 := ⟨_, rfl⟩
            have hDq : c9q ≤ 14348907 := by rw [hc9]; exact Int.le_trans (Int.le_of_dvd (by omega) b1) D1
            have hbo := val_o (k := k) (t := t9) (c := c9q) (T := V_6 77 (12 * r + 2 * V 59 k)) (B := V_6 77 (12 * r + 2 * V 59 k + 1)) (by omega) (by rw [hc9]; exact b0) hDq (by rw [ht9, hc9]; have e : ((k.toNat : Nat) : Int) = k := (by omega); rw [e] at b2; exact b2) (hv.1 _ hr9.1 hr9.2)
            have hd9 : 0 < (Int.gcd (t9 * V_6 77 (12 * r + 2 * V 59 k + 1) + V_6 77 (12 * r + 2 * V 59 k) * c9q) (c9q * V_6 77 (12 * r + 2 * V 59 k + 1)) : Int) := (LT_of (t := t9 * V_6 77 (12 * r + 2 * V 59 k + 1) + V_6 77 (12 * r + 2 * V 59 k) * c9q) (b := c9q * V_6 77 (12 * r + 2 * V 59 k + 1)) (by omega) rfl rfl).1
            rw [ht9, hc9] at hd9 hbo
            refine j_bipush hX dX12_value_61 (by decide) ⟨by decide, by decide⟩ ?_
            refine j_il1 hX dX12_value_63 ?_
            refine j_imul hX dX12_value_64 (by omega) ?_
            refine j_iconst hX dX12_value_65 ⟨by decide, by decide⟩ ?_
            refine j_al0 hX dX12_value_66 rfl ?_
            refine j_getR (q := 59) hX hG fl_X12_19 rfl rfl (by decide) dX12_value_67 ?_
            refine j_il7 hX dX12_value_70 ?_
            refine j_iald (n := 16) hX hG (by decide) (by omega) dX12_value_72 ?_
            refine j_eqS (st' := [vI (V 59 k), vI 2, vI (12 * r)]) (by rw [f59_6]) ?_
            refine j_imul hX dX12_value_73 (by omega) ?_
            refine j_iadd hX dX12_value_74 (by omega) ?_
            refine j_is8 hX dX12_value_75 rfl ?_
            refine j_ll3 hX dX12_value_77 ?_
            refine j_al0 hX dX12_value_78 rfl ?_
            refine j_getR (q := 77) hX hG fl_X12_80 rfl rfl (by decide) dX12_value_79 ?_
            refine j_il8 hX dX12_value_82 ?_
            refine j_iconst hX dX12_value_84 ⟨by decide, by decide⟩ ?_
            refine j_iadd hX dX12_value_85 (by omega) ?_
            refine j_lald (n := 72) hX hG (by decide) (by omega) dX12_value_86 ?_
            refine j_lmul hX dX12_value_87 (by omega) ?_
            refine j_al0 hX dX12_value_88 rfl ?_
            refine j_getR (q := 77) hX hG fl_X12_80 rfl rfl (by decide) dX12_value_89 ?_
            refine j_il8 hX dX12_value_92 ?_
            refine j_lald (n := 72) hX hG (by decide) (by omega) dX12_value_94 ?_
            refine j_ll5 hX dX12_value_95 ?_
            refine j_lmul hX dX12_value_97 (by omega) ?_
            refine j_ladd hX dX12_value_98 (by omega) ?_
            refine j_ls3 hX dX12_value_99 rfl ?_
            refine j_ll5 hX dX12_value_100 ?_
            refine j_al0 hX dX12_value_102 rfl ?_
            refine j_getR (q := 77) hX hG fl_X12_80 rfl rfl (by decide) dX12_value_103 ?_
            refine j_il8 hX dX12_value_106 ?_
            refine j_iconst hX dX12_value_108 ⟨by decide, by decide⟩ ?_
            refine j_iadd hX dX12_value_109 (by omega) ?_
            refine j_lald (n := 72) hX hG (by decide) (by omega) dX12_value_110 ?_
            refine j_lmul hX dX12_value_111 (by omega) ?_
            refine j_ls5 hX dX12_value_112 rfl ?_
            refine j_ll3 hX dX12_value_114 ?_
            refine j_ll5 hX dX12_value_115 ?_
            refine j_pSL2 hX hG lk_X12_370 (ok_X12_common (by omega) (by omega)) (Nat.le_of_ble_eq_true rfl) (Nat.le_of_ble_eq_true rfl) (Nat.le_of_ble_eq_true rfl) rfl dX12_value_117 ?_
            refine j_ls9 hX dX12_value_120 rfl ?_
            refine j_ll3 hX dX12_value_122 ?_
            refine j_ll9 hX dX12_value_123 ?_
            refine j_ldivT hX dX12_value_125 hd9 ?_
            refine j_ls3 hX dX12_value_126 rfl ?_
            refine j_ll5 hX dX12_value_127 ?_
            refine j_ll9 hX dX12_value_129 ?_
            refine j_ldivT hX dX12_value_131 hd9 ?_
            refine j_ls5 hX dX12_value_132 rfl ?_
            refine j_inc7 hX dX12_value_134 rfl (by omega) ?_
            refine j_goto (tgt := 52) hX dX12_value_137 (by decide) ?_
            refine j_fg8 ?_
            refine j_fg9 ?_
            refine j_eqL (ls' := [vA 55, vI r, vI p, vL ((valF (fun s => V_6 77 (12 * r + 2 * s)) (fun s => V_6 77 (12 * r + 2 * s + 1)) (V 59) (k + 1).toNat).1), vU, vL ((valF (fun s => V_6 77 (12 * r + 2 * s)) (fun s => V_6 77 (12 * r + 2 * s + 1)) (V 59) (k + 1).toNat).2), vU, vI (k + 1), vU, vU, vU]) (by rw [valF_S hk.1 rfl rfl]) ?_
            exact ih_52 _ (by omega) (by omega)
      refine j_eqL (ls' := [vA 55, vI r, vI p, vL ((valF (fun s => V_6 77 (12 * r + 2 * s)) (fun s => V_6 77 (12 * r + 2 * s + 1)) (V 59) (0 : Int).toNat).1), vU, vL ((valF (fun s => V_6 77 (12 * r + 2 * s)) (fun s => V_6 77 (12 * r + 2 * s + 1)) (V 59) (0 : Int).toNat).2), vU, vI 0, vU, vU, vU]) rfl ?_
      exact lp_52 _ _ ⟨by decide, by omega⟩ (Nat.lt_succ_self _)
    · skip
      refine j_lconst (x := 0) hX dX12_value_42 rfl ⟨by decide, by decide⟩ ?_
      exact j_retL hR dX12_value_43 (by
      first
      | exact (by
          obtain ⟨c_36, -, w_36⟩ := h_36.elim (fun q => absurd q.2.1 (by omega)) id
          rw [w_36]
          refine ⟨Or.inr (Or.inr ⟨?_, fun q => ?_, rfl, up_s ..⟩), ks.u0 2⟩
          · rw [up_n _ (by decide)]; exact c9
          · rw [if_pos q] at c_36; exact absurd c_36 (by decide))
      | exact (by
          obtain ⟨c_22, -, w_22⟩ := h_22.elim (fun q => absurd q.2.1 (by omega)) id
          rw [w_22]
          refine ⟨Or.inr (Or.inl ⟨fun q => ?_, rfl, up_s ..⟩), ks.u0 1⟩
          rw [up_n _ (by decide)] at q
          rw [if_pos (by omega)] at c_22; exact absurd c_22 (by decide)))
