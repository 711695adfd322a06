set_option maxHeartbeats 4000000 in
theorem ok_X12_setCase {V : VV} {a b c s : Int} (hmo : MO V) (hnm : 1 ≤ V 55 5 ∧ V 55 5 ≤ 16) (hpm : 0 ≤ V 55 21 ∧ V 55 21 ≤ 10) : Ok NA yX12_setCase cX12_setCase 7 (some .int) 3 66 [vA 55, vI a, vI b, vI c, vI s] V (pI (fun x9 V' => ((((0 ≤ a ∧ a < V 55 1) ∧ (0 ≤ b ∧ b < V 55 1) ∧ (V 55 2 = 2 ∨ 0 ≤ c ∧ c < V 55 1)) ∧ 0 ≤ s ∧ s < V 55 1) ∧ x9 = V 58 (if V 55 2 = 2 then V 55 1 * a + b else V 55 1 * (V 55 1 * a + b) + c) ∧ V' 55 0 = 0 ∧ KPS V V' ∧ (∀ e, V' 58 e = if e = (if V 55 2 = 2 then V 55 1 * a + b else V 55 1 * (V 55 1 * a + b) + c) then s else V 58 e) ∧ V' 55 38 = 0 ∧ V' 55 45 = 0 ∧ (∀ z, z ≠ 0 → z ≠ 21 → z ≠ 38 → z ≠ 45 → V' 55 z = V 55 z) ∧ ∀ y z, y ≠ 55 → y ≠ 67 → y ≠ 58 → V' y z = V y z) ∨ (¬ (((0 ≤ a ∧ a < V 55 1) ∧ (0 ≤ b ∧ b < V 55 1) ∧ (V 55 2 = 2 ∨ 0 ≤ c ∧ c < V 55 1)) ∧ 0 ≤ s ∧ s < V 55 1) ∧ x9 = 0 ∧ V' = up (up V 55 0 0) 55 0 1))) := by
  refine Ok.intro (by decide +kernel) (Nat.le_of_ble_eq_true rfl) (fun X G hX hG hR hoa hoV => ?_)
  show J X G 0 [vA 55, vI a, vI b, vI c, vI s, vU, vU] [] V
  have hb9 := hmo.b
  refine j_al0 hX dX12_setCase_0 rfl ?_
  refine j_iconst hX dX12_setCase_1 ⟨by decide, by decide⟩ ?_
  refine j_putI hX hG fp_X12_126 rfl (by decide) dX12_setCase_2 ?_
  obtain ⟨U, hU⟩ : ∃ U, U = up V 55 0 0 := ⟨_, rfl⟩
  rw [← hU]
  have u0 : U 55 0 = 0 := by rw [hU]; exact up_s ..
  have uF : ∀ b, b ≠ 0 → U 55 b = V 55 b := fun b hb => by rw [hU]; exact up_n _ (fun q => hb q.2)
  have uC : ∀ a b, a ≠ 55 → U a b = V a b := fun a b ha => by rw [hU]; exact up_n _ (fun q => ha q.1)
  have moU : MO U := hmo.t uF
  have u1 := uF 1 (by decide)
  have u2 := uF 2 (by decide)
  have u5 := uF 5 (by decide)
  have u21 := uF 21 (by decide)
  have jn_30 : ∀ (z : Int), (z = if ((0 ≤ a ∧ a < V 55 1) ∧ (0 ≤ b ∧ b < V 55 1) ∧ (V 55 2 = 2 ∨ 0 ≤ c ∧ c < V 55 1)) ∧ 0 ≤ s ∧ s < V 55 1 then 1 else 0) → J X G 30 [vA 55, vI a, vI b, vI c, vI s, vU, vU] [vI z, vA 55] U := by
    intro z hs9
    refine j_iconst hX dX12_setCase_30 ⟨by decide, by decide⟩ ?_
    refine j_cVI2 (ci := 12) hX hG lk_X12_168 (ok_X12_may u0 (by decide)) (by decide) rfl (Nat.le_of_ble_eq_true rfl) (Nat.le_of_ble_eq_true rfl) (Nat.le_of_ble_eq_true rfl) rfl dX12_setCase_31 (fun x_31 V_31 h_31 => ?_)
    skip
    refine j_if_ne (tgt := 39) hX dX12_setCase_34 (by decide) (fun h_34 => ?_) (fun h_34 => ?_)
    · skip
      obtain ⟨c_31, -, w_31⟩ := h_31.elim id (fun q => absurd q.2.1 (by omega))
      have w2_31 := w_31.symm
      subst w2_31
      have c9 : ((0 ≤ a ∧ a < V 55 1) ∧ (0 ≤ b ∧ b < V 55 1) ∧ (V 55 2 = 2 ∨ 0 ≤ c ∧ c < V 55 1)) ∧ 0 ≤ s ∧ s < V 55 1 := Classical.byContradiction fun y => c_31 (by rw [hs9, if_neg y])
      have w9 := hmo.w c9.1
      refine j_al0 hX dX12_setCase_39 rfl ?_
      refine j_cVV0 (ci := 12) hX hG lk_X12_328 (ok_X12_keeps moU (by omega) (by omega)) (by decide) rfl (Nat.le_of_ble_eq_true rfl) (Nat.le_of_ble_eq_true rfl) (Nat.le_of_ble_eq_true rfl) rfl dX12_setCase_40 (fun V_40 h_40 => ?_)
      obtain ⟨k_40, f_40⟩ := h_40
      have v1 : V_40 55 1 = V 55 1 := (f_40.1 1 (by decide)).trans u1
      have v2 : V_40 55 2 = V 55 2 := (f_40.1 2 (by decide)).trans u2
      refine j_al0 hX dX12_setCase_43 rfl ?_
      refine j_il1 hX dX12_setCase_44 ?_
      refine j_il2 hX dX12_setCase_45 ?_
      refine j_il3 hX dX12_setCase_46 ?_
      refine j_pVI3 (ci := 12) hX hG lk_X12_315 (ok_X12_wordOf (by omega) (by omega) (by omega) (by omega)) (by decide) rfl (Nat.le_of_ble_eq_true rfl) (Nat.le_of_ble_eq_true rfl) (Nat.le_of_ble_eq_true rfl) rfl dX12_setCase_47 ?_
      refine j_eqS (st' := [vI (if V 55 2 = 2 then V 55 1 * a + b else V 55 1 * (V 55 1 * a + b) + c)]) (by rw [v1, v2]) ?_
      refine j_is5 hX dX12_setCase_50 rfl ?_
      refine j_al0 hX dX12_setCase_52 rfl ?_
      refine j_getR (q := 58) hX hG fl_X12_16 rfl rfl (by decide) dX12_setCase_53 ?_
      refine j_il5 hX dX12_setCase_56 ?_
      refine j_iald (n := 216) hX hG (by decide) (by omega) dX12_setCase_58 ?_
      refine j_is6 hX dX12_setCase_59 rfl ?_
      refine j_al0 hX dX12_setCase_61 rfl ?_
      refine j_getR (q := 58) hX hG fl_X12_16 rfl rfl (by decide) dX12_setCase_62 ?_
      refine j_il5 hX dX12_setCase_65 ?_
      refine j_il4 hX dX12_setCase_67 ?_
      refine j_iast (n := 216) hX hG (by decide) (by omega) dX12_setCase_69 ?_
      refine j_al0 hX dX12_setCase_70 rfl ?_
      refine j_iconst hX dX12_setCase_71 ⟨by decide, by decide⟩ ?_
      refine j_putZ hX hG fp_X12_158 rfl (by omega) (by decide) dX12_setCase_72 ?_
      refine j_al0 hX dX12_setCase_75 rfl ?_
      refine j_iconst hX dX12_setCase_76 ⟨by decide, by decide⟩ ?_
      refine j_putZ hX hG fp_X12_162 rfl (by omega) (by decide) dX12_setCase_77 ?_
      refine j_il6 hX dX12_setCase_80 ?_
      exact j_retI hR dX12_setCase_82 (by
      generalize hE : up _ 55 45 _ = E
      have eF : ∀ z, z ≠ 38 → z ≠ 45 → E 55 z = V_40 55 z := fun z h1 h2 => by rw [← hE, up_n _ (by omega), up_n _ (by omega), up_n _ (by omega)]
      have eC : ∀ y z, y ≠ 55 → y ≠ 58 → E y z = V_40 y z := fun y z h1 h2 => by rw [← hE, up_n _ (by omega), up_n _ (by omega), up_n _ (by omega)]
      have e58 : ∀ e, E 58 e = if e = (if V 55 2 = 2 then V 55 1 * a + b else V 55 1 * (V 55 1 * a + b) + c) then s else V 58 e := fun e => by
        rw [← hE, up_n _ (by omega), up_n _ (by omega)]
        by_cases y : e = (if V 55 2 = 2 then V 55 1 * a + b else V 55 1 * (V 55 1 * a + b) + c)
        · rw [if_pos y, y, up_s]
        · rw [if_neg y, up_n _ (fun q => y q.2), f_40.2 58 e (by decide) (by decide)]; exact uC 58 e (by decide)
      have q38 : E 55 38 = 0 := by rw [← hE, up_n _ (by omega), up_s]
      have q45 : E 55 45 = 0 := by rw [← hE, up_s]
      clear hE
      exact Or.inl ⟨c9, (f_40.2 58 _ (by decide) (by decide)).trans (uC 58 _ (by decide)), (eF 0 (by decide) (by decide)).trans ((f_40.1 0 (by decide)).trans u0), (k_40.c uF uC).d2 (eF 21 (by decide) (by decide)) (fun b => eC 67 b (by decide) (by decide)), e58, q38, q45, fun z h0 h1 h2 h3 => (eF z h2 h3).trans ((f_40.1 z h1).trans (uF z h0)), fun y z h0 h1 h2 => (eC y z h0 h2).trans ((f_40.2 y z h0 h1).trans (uC y z h0))⟩)
    · skip
      obtain ⟨c_31, -, w_31⟩ := h_31.elim (fun q => absurd q.2.1 (by omega)) id
      refine j_iconst hX dX12_setCase_37 ⟨by decide, by decide⟩ ?_
      exact j_retI hR dX12_setCase_38 (Or.inr ⟨fun y => by rw [hs9, if_pos y] at c_31; exact absurd c_31 (by decide), rfl, by rw [w_31, hU]⟩)
  refine j_al0 hX dX12_setCase_5 rfl ?_
  refine j_al0 hX dX12_setCase_6 rfl ?_
  refine j_il1 hX dX12_setCase_7 ?_
  refine j_il2 hX dX12_setCase_8 ?_
  refine j_il3 hX dX12_setCase_9 ?_
  refine j_pVI3 (ci := 12) hX hG lk_X12_312 (ok_X12_isWordOf (by omega)) (by decide) rfl (Nat.le_of_ble_eq_true rfl) (Nat.le_of_ble_eq_true rfl) (Nat.le_of_ble_eq_true rfl) rfl dX12_setCase_10 ?_
  refine j_ifz_eq (tgt := 29) hX dX12_setCase_13 (by decide) (fun h_13 => ?_) (fun h_13 => ?_)
  · skip
    refine j_iconst hX dX12_setCase_29 ⟨by decide, by decide⟩ ?_
    exact jn_30 _ (by split <;> first | rfl | (exfalso; omega))
  · skip
    refine j_al0 hX dX12_setCase_16 rfl ?_
    refine j_il4 hX dX12_setCase_17 ?_
    refine j_pVI1 (ci := 12) hX hG lk_X12_290 (ok_X12_isState (by omega)) (by decide) rfl (Nat.le_of_ble_eq_true rfl) (Nat.le_of_ble_eq_true rfl) (Nat.le_of_ble_eq_true rfl) rfl dX12_setCase_19 ?_
    refine j_ifz_eq (tgt := 29) hX dX12_setCase_22 (by decide) (fun h_22 => ?_) (fun h_22 => ?_)
    · skip
      refine j_iconst hX dX12_setCase_29 ⟨by decide, by decide⟩ ?_
      exact jn_30 _ (by split <;> first | rfl | (exfalso; omega))
    · skip
      refine j_iconst hX dX12_setCase_25 ⟨by decide, by decide⟩ ?_
      refine j_goto (tgt := 30) hX dX12_setCase_26 (by decide) ?_
      exact jn_30 _ (by split <;> first | rfl | (exfalso; omega))
