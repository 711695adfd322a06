def KNM (V V' : VV) : Prop := V' 55 38 = 1 ∧ MIV V' (V 58) (V 55 1) (V 55 3) (V 55 2) ∧ fI V V'
theorem MIV_c {V W : VV} {T : Int → Int} {g n w : Int} (h39 : W 55 39 = V 55 39) (h40 : W 55 40 = V 55 40) (h74 : W 74 = V 74) (h : MIV V T g n w) : MIV W T g n w := by unfold MIV; rw [h39, h40, h74]; exact h
theorem KNM.u0 {V W : VV} (h : KNM V W) (x : Int) : KNM V (up W 55 0 x) := ⟨by rw [up_n _ (by decide)]; exact h.1, MIV_c (up_n _ (by decide)) (up_n _ (by decide)) (up_r _ (by decide)) h.2.1, fI_u h.2.2 (Or.inl rfl)⟩
theorem KNM.b {V W : VV} (ho : MO V) (h : KNM V W) : W 55 39 ≠ 0 → (1 ≤ W 55 39 ∧ W 55 39 ≤ 5) ∧ 1 ≤ V 55 1 ^ (W 55 39).toNat ∧ V 55 1 ^ (W 55 39).toNat ≤ 7776 := fun q => by
  have := h.2.1.1.b ho.1 q
  exact ⟨this.1, this.2.2.1⟩
set_option maxHeartbeats 4000000 in
theorem ok_X12_inverse {V : VV} {a : Int} (hmo : MO V) (htm : TRM V) (hik : V 55 38 ≠ 0 → MIV V (V 58) (V 55 1) (V 55 3) (V 55 2)) : Ok NA yX12_inverse cX12_inverse 4 (some .int) 3 70 [vA 55, vI a] V (pI (fun x9 V' => ((0 ≤ a ∧ a ≤ 2) ∧ V' 55 39 ≠ 0 ∧ ((a = 0 ∧ x9 = V' 55 39) ∨ (a = 1 ∧ x9 = V' 55 40) ∨ (a = 2 ∧ x9 = cntI (fun c => V' 74 c != -1) (V 55 1 ^ (V' 55 39).toNat).toNat)) ∧ KNM V V' ∧ V' 55 0 = 0) ∨ (¬ (0 ≤ a ∧ a ≤ 2) ∧ x9 = 0 ∧ V' = up (up V 55 0 0) 55 0 1) ∨ ((0 ≤ a ∧ a ≤ 2) ∧ x9 = 0 ∧ V' 55 39 = 0 ∧ KNM V V' ∧ V' 55 0 = 2))) := by
  refine Ok.intro (by decide +kernel) (Nat.le_of_ble_eq_true rfl) (fun X G hX hG hR hoa hoV => ?_)
  show J X G 0 [vA 55, vI a, vU, vU] [] V
  refine j_al0 hX dX12_inverse_0 rfl ?_
  refine j_iconst hX dX12_inverse_1 ⟨by decide, by decide⟩ ?_
  refine j_putI hX hG fp_X12_126 rfl (by decide) dX12_inverse_2 ?_
  obtain ⟨U, hU⟩ : ∃ U, U = up V 55 0 0 := ⟨_, rfl⟩
  rw [← hU]
  have u0 : U 55 0 = 0 := by rw [hU]; exact up_s ..
  have uF : ∀ b, b ≠ 0 → U 55 b = V 55 b := fun b hb => by rw [hU]; exact up_n _ (fun q => hb q.2)
  have uC : ∀ a b, a ≠ 55 → U a b = V a b := fun a b ha => by rw [hU]; exact up_n _ (fun q => ha q.1)
  have moU : MO U := hmo.t uF
  have e58 : U 58 = V 58 := funext fun b => uC 58 b (by decide)
  have e1 := uF 1 (by decide)
  have e2 := uF 2 (by decide)
  have e3 := uF 3 (by decide)
  have tmU : TRM U := by unfold TRM; rw [e1, e3, e58]; exact htm
  have ikU : U 55 38 ≠ 0 → MIV U (U 58) (U 55 1) (U 55 3) (U 55 2) := fun q => by
    rw [e58, e1, e2, e3]
    exact MIV_c (uF 39 (by decide)) (uF 40 (by decide)) (funext fun b => uC 74 b (by decide)) (hik (by rw [← uF 38 (by decide)]; exact q))
  have fU : fI V U := by rw [hU]; exact fI_u fI_0 (Or.inl rfl)
  refine j_al0 hX dX12_inverse_5 rfl ?_
  refine j_il1 hX dX12_inverse_6 ?_
  refine j_iconst hX dX12_inverse_7 ⟨by decide, by decide⟩ ?_
  refine j_iconst hX dX12_inverse_8 ⟨by decide, by decide⟩ ?_
  refine j_pSI3 hX hG lk_X12_172 (ok_X12_isIn ) (Nat.le_of_ble_eq_true rfl) (Nat.le_of_ble_eq_true rfl) (Nat.le_of_ble_eq_true rfl) rfl dX12_inverse_9 ?_
  refine j_iconst hX dX12_inverse_12 ⟨by decide, by decide⟩ ?_
  refine j_cVI2 (ci := 12) hX hG lk_X12_168 (ok_X12_may u0 (by decide)) (by decide) rfl (Nat.le_of_ble_eq_true rfl) (Nat.le_of_ble_eq_true rfl) (Nat.le_of_ble_eq_true rfl) rfl dX12_inverse_13 (fun x_13 V_13 h_13 => ?_)
  skip
  refine j_if_eq (tgt := 31) hX dX12_inverse_16 (by decide) (fun h_16 => ?_) (fun h_16 => ?_)
  · skip
    skip
    refine j_iconst hX dX12_inverse_31 ⟨by decide, by decide⟩ ?_
    exact j_retI hR dX12_inverse_32 (by
      first
      | exact Or.inr (Or.inl ⟨fun q => h_13.elim (fun r => absurd r.2.1 (by omega)) (fun r => by rw [if_pos q] at r; exact absurd r.1 (by decide)), rfl, by rw [(h_13.elim (fun r => absurd r.2.1 (by omega)) id).2.2, hU]⟩)
      | exact (by
          obtain ⟨c_25, -, w_25⟩ := h_25.elim (fun q => absurd q.2.1 (by omega)) id
          have c39 : V_21 55 39 = 0 := by
            rw [x_21e] at c_25
            by_cases q : 0 < V_21 55 39
            · rw [if_pos q] at c_25; exact absurd c_25 (by decide)
            · omega
          rw [w_25]
          exact Or.inr (Or.inr ⟨c9, rfl, by rw [up_n _ (by decide)]; exact c39, kn.u0 2, up_s ..⟩)))
  · skip
    obtain ⟨c_13, -, w_13⟩ := h_13.elim id (fun q => absurd q.2.1 (by omega))
    have w2_13 := w_13.symm
    subst w2_13
    have c9 : 0 ≤ a ∧ a ≤ 2 := Classical.byContradiction fun q => c_13 (by rw [if_neg q])
    refine j_al0 hX dX12_inverse_19 rfl ?_
    refine j_al0 hX dX12_inverse_20 rfl ?_
    refine j_cVI0 (ci := 12) hX hG lk_X12_364 (ok_X12_isInverted moU tmU ikU) (by decide) rfl (Nat.le_of_ble_eq_true rfl) (Nat.le_of_ble_eq_true rfl) (Nat.le_of_ble_eq_true rfl) rfl dX12_inverse_21 (fun x_21 V_21 h_21 => ?_)
    obtain ⟨x_21e, k_21, m_21, f_21, z_21⟩ := h_21
    rw [e58, e1, e2, e3] at m_21
    have v0 : V_21 55 0 = 0 := z_21.trans u0
    have hb9 := hmo.b
    have kn : KNM V V_21 := ⟨k_21, m_21, fI_t fU f_21⟩
    have k1 : V_21 55 1 = V 55 1 := kn.2.2.1 1 (by decide) (by decide) (by decide) (by decide)
    have mo2 : MO V_21 := by unfold MO; rw [k1, kn.2.2.1 2 (by decide) (by decide) (by decide) (by decide), kn.2.2.1 3 (by decide) (by decide) (by decide) (by decide), kn.2.2.1 4 (by decide) (by decide) (by decide) (by decide)]; exact hmo
    have hb39 := KNM.b hmo kn
    refine j_iconst hX dX12_inverse_24 ⟨by decide, by decide⟩ ?_
    refine j_cVI2 (ci := 12) hX hG lk_X12_168 (ok_X12_may v0 (by decide)) (by decide) rfl (Nat.le_of_ble_eq_true rfl) (Nat.le_of_ble_eq_true rfl) (Nat.le_of_ble_eq_true rfl) rfl dX12_inverse_25 (fun x_25 V_25 h_25 => ?_)
    skip
    refine j_if_ne (tgt := 33) hX dX12_inverse_28 (by decide) (fun h_28 => ?_) (fun h_28 => ?_)
    · skip
      obtain ⟨c_25, -, w_25⟩ := h_25.elim id (fun q => absurd q.2.1 (by omega))
      have w2_25 := w_25.symm
      subst w2_25
      have c39 : 0 < V_21 55 39 := Classical.byContradiction fun q => c_25 (by rw [x_21e, if_neg q])
      refine j_il1 hX dX12_inverse_33 ?_
      refine j_iconst hX dX12_inverse_34 ⟨by decide, by decide⟩ ?_
      refine j_icmp_ge (tgt := 54) hX dX12_inverse_35 (by decide) (fun h_35 => ?_) (fun h_35 => ?_)
      · skip
        refine j_iconst hX dX12_inverse_54 ⟨by decide, by decide⟩ ?_
        refine j_is2 hX dX12_inverse_55 rfl ?_
        refine j_iconst hX dX12_inverse_56 ⟨by decide, by decide⟩ ?_
        refine j_is3 hX dX12_inverse_57 rfl ?_
        have lp_58 : ∀ (f9 : Nat) (m k : Int), (0 ≤ k ∧ k ≤ V 55 1 ^ (V_21 55 39).toNat) → (m = cntI (fun c => V_21 74 c != -1) k.toNat) → ((V 55 1 ^ (V_21 55 39).toNat - k).toNat) < f9 → J X G 58 [vA 55, vI a, vI m, vI k] [] V_21 := by
          intro f9
          induction f9 with
          | zero => intro m k _ _ hm; exact absurd hm (Nat.not_lt_zero _)
          | succ f9 ih_58 =>
            intro m k hk hmw hm
            refine j_il3 hX dX12_inverse_58 ?_
            refine j_al0 hX dX12_inverse_59 rfl ?_
            refine j_getI hX hG fl_X12_136 (Or.inl rfl) (by decide) dX12_inverse_60 ?_
            refine j_al0 hX dX12_inverse_63 rfl ?_
            refine j_getI hX hG fl_X12_352 (Or.inl rfl) (by decide) dX12_inverse_64 ?_
            refine j_eqS (st' := [vI (V_21 55 39), vI (V 55 1), vI k]) (by rw [k1]) ?_
            refine j_pSI2 hX hG lk_X12_349 (ok_X12_power (by omega) (by omega)) (Nat.le_of_ble_eq_true rfl) (Nat.le_of_ble_eq_true rfl) (Nat.le_of_ble_eq_true rfl) rfl dX12_inverse_67 ?_
            refine j_icmp_ge (tgt := 97) hX dX12_inverse_70 (by decide) (fun h_70 => ?_) (fun h_70 => ?_)
            · skip
              refine j_il2 hX dX12_inverse_97 ?_
              exact j_retI hR dX12_inverse_98 (Or.inl ⟨c9, by omega, Or.inr (Or.inr ⟨by omega, by rw [hmw, show k = V 55 1 ^ (V_21 55 39).toNat by omega]⟩), kn, v0⟩)
            · skip
              have jn_89 : ∀ (z : Int), (z = if (fun c => V_21 74 c != -1) k = true then 1 else 0) → J X G 89 [vA 55, vI a, vI m, vI k] [vI z, vI m] V_21 := by
                intro z hz
                refine j_iadd hX dX12_inverse_89 (by have := cntI_b (fun c => V_21 74 c != -1) k.toNat; rw [hz]; split <;> omega) ?_
                refine j_is2 hX dX12_inverse_90 rfl ?_
                refine j_inc3 hX dX12_inverse_91 rfl (by omega) ?_
                refine j_goto (tgt := 58) hX dX12_inverse_94 (by decide) ?_
                exact ih_58 _ _ (by omega) (by rw [hmw, hz, cntI_S hk.1]) (by omega)
              refine j_il2 hX dX12_inverse_73 ?_
              refine j_al0 hX dX12_inverse_74 rfl ?_
              refine j_getR (q := 74) hX hG fl_X12_70 rfl rfl (by decide) dX12_inverse_75 ?_
              refine j_il3 hX dX12_inverse_78 ?_
              refine j_iald (n := 7776) hX hG (by decide) (by omega) dX12_inverse_79 ?_
              refine j_iconst hX dX12_inverse_80 ⟨by decide, by decide⟩ ?_
              refine j_icmp_ne (tgt := 88) hX dX12_inverse_81 (by decide) (fun h_81 => ?_) (fun h_81 => ?_)
              · skip
                refine j_iconst hX dX12_inverse_88 ⟨by decide, by decide⟩ ?_
                exact jn_89 _ (by first | exact (if_pos (by simpa using h_81)).symm | exact (if_neg (by simpa using h_81)).symm)
              · skip
                refine j_iconst hX dX12_inverse_84 ⟨by decide, by decide⟩ ?_
                refine j_goto (tgt := 89) hX dX12_inverse_85 (by decide) ?_
                exact jn_89 _ (by first | exact (if_pos (by simpa using h_81)).symm | exact (if_neg (by simpa using h_81)).symm)
        exact lp_58 _ 0 0 ⟨by decide, by omega⟩ rfl (Nat.lt_succ_self _)
      · skip
        refine j_il1 hX dX12_inverse_38 ?_
        refine j_if_ne (tgt := 49) hX dX12_inverse_39 (by decide) (fun h_39 => ?_) (fun h_39 => ?_)
        · skip
          refine j_al0 hX dX12_inverse_49 rfl ?_
          refine j_getI hX hG fl_X12_361 (Or.inl rfl) (by decide) dX12_inverse_50 ?_
          exact j_retI hR dX12_inverse_53 (by first | exact Or.inl ⟨c9, by omega, Or.inl ⟨by omega, rfl⟩, kn, v0⟩ | exact Or.inl ⟨c9, by omega, Or.inr (Or.inl ⟨by omega, rfl⟩), kn, v0⟩)
        · skip
          refine j_al0 hX dX12_inverse_42 rfl ?_
          refine j_getI hX hG fl_X12_352 (Or.inl rfl) (by decide) dX12_inverse_43 ?_
          refine j_goto (tgt := 53) hX dX12_inverse_46 (by decide) ?_
          exact j_retI hR dX12_inverse_53 (by first | exact Or.inl ⟨c9, by omega, Or.inl ⟨by omega, rfl⟩, kn, v0⟩ | exact Or.inl ⟨c9, by omega, Or.inr (Or.inl ⟨by omega, rfl⟩), kn, v0⟩)
    · skip
      skip
      refine j_iconst hX dX12_inverse_31 ⟨by decide, by decide⟩ ?_
      exact j_retI hR dX12_inverse_32 (by
      first
      | exact Or.inr (Or.inl ⟨fun q => h_13.elim (fun r => absurd r.2.1 (by omega)) (fun r => by rw [if_pos q] at r; exact absurd r.1 (by decide)), rfl, by rw [(h_13.elim (fun r => absurd r.2.1 (by omega)) id).2.2, hU]⟩)
      | exact (by
          obtain ⟨c_25, -, w_25⟩ := h_25.elim (fun q => absurd q.2.1 (by omega)) id
          have c39 : V_21 55 39 = 0 := by
            rw [x_21e] at c_25
            by_cases q : 0 < V_21 55 39
            · rw [if_pos q] at c_25; exact absurd c_25 (by decide)
            · omega
          rw [w_25]
          exact Or.inr (Or.inr ⟨c9, rfl, by rw [up_n _ (by decide)]; exact c39, kn.u0 2, up_s ..⟩)))
set_option maxHeartbeats 4000000 in
theorem ok_X12_inverseOf {V : VV} {d : Int} (hmo : MO V) (htm : TRM V) (hik : V 55 38 ≠ 0 → MIV V (V 58) (V 55 1) (V 55 3) (V 55 2)) : Ok NA yX12_inverseOf cX12_inverseOf 3 (some .int) 3 70 [vA 55, vI d] V (pI (fun x9 V' => (V' 55 39 ≠ 0 ∧ decC (V 55 1) (V' 55 39).toNat d ≠ -1 ∧ x9 = V' 74 (decC (V 55 1) (V' 55 39).toNat d) ∧ KNM V V' ∧ V' 55 0 = 0) ∨ (x9 = 0 ∧ V' 55 39 = 0 ∧ KNM V V' ∧ V' 55 0 = 1) ∨ (x9 = 0 ∧ V' 55 39 ≠ 0 ∧ decC (V 55 1) (V' 55 39).toNat d = -1 ∧ KNM V V' ∧ V' 55 0 = 2))) := by
  refine Ok.intro (by decide +kernel) (Nat.le_of_ble_eq_true rfl) (fun X G hX hG hR hoa hoV => ?_)
  show J X G 0 [vA 55, vI d, vU] [] V
  refine j_al0 hX dX12_inverseOf_0 rfl ?_
  refine j_iconst hX dX12_inverseOf_1 ⟨by decide, by decide⟩ ?_
  refine j_putI hX hG fp_X12_126 rfl (by decide) dX12_inverseOf_2 ?_
  obtain ⟨U, hU⟩ : ∃ U, U = up V 55 0 0 := ⟨_, rfl⟩
  rw [← hU]
  have u0 : U 55 0 = 0 := by rw [hU]; exact up_s ..
  have uF : ∀ b, b ≠ 0 → U 55 b = V 55 b := fun b hb => by rw [hU]; exact up_n _ (fun q => hb q.2)
  have uC : ∀ a b, a ≠ 55 → U a b = V a b := fun a b ha => by rw [hU]; exact up_n _ (fun q => ha q.1)
  have moU : MO U := hmo.t uF
  have e58 : U 58 = V 58 := funext fun b => uC 58 b (by decide)
  have e1 := uF 1 (by decide)
  have e2 := uF 2 (by decide)
  have e3 := uF 3 (by decide)
  have tmU : TRM U := by unfold TRM; rw [e1, e3, e58]; exact htm
  have ikU : U 55 38 ≠ 0 → MIV U (U 58) (U 55 1) (U 55 3) (U 55 2) := fun q => by
    rw [e58, e1, e2, e3]
    exact MIV_c (uF 39 (by decide)) (uF 40 (by decide)) (funext fun b => uC 74 b (by decide)) (hik (by rw [← uF 38 (by decide)]; exact q))
  have fU : fI V U := by rw [hU]; exact fI_u fI_0 (Or.inl rfl)
  refine j_al0 hX dX12_inverseOf_5 rfl ?_
  refine j_al0 hX dX12_inverseOf_6 rfl ?_
  refine j_cVI0 (ci := 12) hX hG lk_X12_364 (ok_X12_isInverted moU tmU ikU) (by decide) rfl (Nat.le_of_ble_eq_true rfl) (Nat.le_of_ble_eq_true rfl) (Nat.le_of_ble_eq_true rfl) rfl dX12_inverseOf_7 (fun x_7 V_7 h_7 => ?_)
  obtain ⟨x_7e, k_7, m_7, f_7, z_7⟩ := h_7
  rw [e58, e1, e2, e3] at m_7
  have v0 : V_7 55 0 = 0 := z_7.trans u0
  have hb9 := hmo.b
  have kn : KNM V V_7 := ⟨k_7, m_7, fI_t fU f_7⟩
  have k1 : V_7 55 1 = V 55 1 := kn.2.2.1 1 (by decide) (by decide) (by decide) (by decide)
  have mo2 : MO V_7 := by unfold MO; rw [k1, kn.2.2.1 2 (by decide) (by decide) (by decide) (by decide), kn.2.2.1 3 (by decide) (by decide) (by decide) (by decide), kn.2.2.1 4 (by decide) (by decide) (by decide) (by decide)]; exact hmo
  have hb39 := KNM.b hmo kn
  refine j_iconst hX dX12_inverseOf_10 ⟨by decide, by decide⟩ ?_
  refine j_cVI2 (ci := 12) hX hG lk_X12_168 (ok_X12_may v0 (by decide)) (by decide) rfl (Nat.le_of_ble_eq_true rfl) (Nat.le_of_ble_eq_true rfl) (Nat.le_of_ble_eq_true rfl) rfl dX12_inverseOf_11 (fun x_11 V_11 h_11 => ?_)
  skip
  refine j_if_ne (tgt := 19) hX dX12_inverseOf_14 (by decide) (fun h_14 => ?_) (fun h_14 => ?_)
  · skip
    obtain ⟨c_11, -, w_11⟩ := h_11.elim id (fun q => absurd q.2.1 (by omega))
    have w2_11 := w_11.symm
    subst w2_11
    have c39 : 0 < V_7 55 39 := Classical.byContradiction fun q => c_11 (by rw [x_7e, if_neg q])
    have g7 := pw5 hb9.1 (k := (V_7 55 39).toNat) (by omega)
    refine j_al0 hX dX12_inverseOf_19 rfl ?_
    refine j_il1 hX dX12_inverseOf_20 ?_
    refine j_pVI1 (ci := 12) hX hG lk_X12_367 (ok_X12_wordBy mo2 (by omega)) (by decide) rfl (Nat.le_of_ble_eq_true rfl) (Nat.le_of_ble_eq_true rfl) (Nat.le_of_ble_eq_true rfl) rfl dX12_inverseOf_21 ?_
    refine j_eqS (st' := [vI (decC (V 55 1) (V_7 55 39).toNat d)]) (by rw [k1]) ?_
    have db := decC_b (g := V 55 1) (by omega) (V_7 55 39).toNat d
    obtain ⟨t, ht⟩ : ∃ t, t = decC (V 55 1) (V_7 55 39).toNat d := ⟨_, rfl⟩
    rw [← ht] at db
    rw [← ht]
    refine j_is2 hX dX12_inverseOf_24 rfl ?_
    have jn_36 : ∀ (z : Int), (z = if t ≠ -1 then 1 else 0) → J X G 36 [vA 55, vI d, vI t] [vI z, vA 55] V_7 := by
      intro z hz
      refine j_iconst hX dX12_inverseOf_36 ⟨by decide, by decide⟩ ?_
      refine j_cVI2 (ci := 12) hX hG lk_X12_168 (ok_X12_may v0 (by decide)) (by decide) rfl (Nat.le_of_ble_eq_true rfl) (Nat.le_of_ble_eq_true rfl) (Nat.le_of_ble_eq_true rfl) rfl dX12_inverseOf_37 (fun x_37 V_37 h_37 => ?_)
      skip
      have jn_53 : ∀ (x9 : Int) (W9 : VV), ((t ≠ -1 ∧ x9 = V_7 74 t ∧ W9 = V_7) ∨ (t = -1 ∧ x9 = 0 ∧ W9 = up V_7 55 0 2)) → J X G 53 [vA 55, vI d, vI t] [vI x9] W9 := by
        intro x9 W9 hz8
        exact j_retI hR dX12_inverseOf_53 (by
      rcases hz8 with ⟨a, b, c⟩ | ⟨a, b, c⟩
      · rw [b, c, ht] at *
        exact Or.inl ⟨by omega, a, rfl, kn, v0⟩
      · rw [b, c]
        refine Or.inr (Or.inr ⟨rfl, by rw [up_n _ (by decide)]; omega, ?_, kn.u0 2, up_s ..⟩)
        rw [up_n _ (by decide), ← ht]; exact a)
      refine j_if_eq (tgt := 52) hX dX12_inverseOf_40 (by decide) (fun h_40 => ?_) (fun h_40 => ?_)
      · skip
        obtain ⟨c_37, -, w_37⟩ := h_37.elim (fun q => absurd q.2.1 (by omega)) id
        have ct : t = -1 := Classical.byContradiction fun q => by rw [hz, if_pos q] at c_37; exact absurd c_37 (by decide)
        refine j_iconst hX dX12_inverseOf_52 ⟨by decide, by decide⟩ ?_
        exact jn_53 _ _ (by first | exact Or.inl ⟨ct, rfl, rfl⟩ | exact Or.inr ⟨ct, rfl, w_37⟩)
      · skip
        obtain ⟨c_37, -, w_37⟩ := h_37.elim id (fun q => absurd q.2.1 (by omega))
        have w2_37 := w_37.symm
        subst w2_37
        have ct : t ≠ -1 := Classical.byContradiction fun q => c_37 (by rw [hz, if_neg q])
        refine j_al0 hX dX12_inverseOf_43 rfl ?_
        refine j_getR (q := 74) hX hG fl_X12_70 rfl rfl (by decide) dX12_inverseOf_44 ?_
        refine j_il2 hX dX12_inverseOf_47 ?_
        refine j_iald (n := 7776) hX hG (by decide) (by omega) dX12_inverseOf_48 ?_
        refine j_goto (tgt := 53) hX dX12_inverseOf_49 (by decide) ?_
        exact jn_53 _ _ (by first | exact Or.inl ⟨ct, rfl, rfl⟩ | exact Or.inr ⟨ct, rfl, w_37⟩)
    refine j_al0 hX dX12_inverseOf_25 rfl ?_
    refine j_il2 hX dX12_inverseOf_26 ?_
    refine j_iconst hX dX12_inverseOf_27 ⟨by decide, by decide⟩ ?_
    refine j_icmp_eq (tgt := 35) hX dX12_inverseOf_28 (by decide) (fun h_28 => ?_) (fun h_28 => ?_)
    · skip
      refine j_iconst hX dX12_inverseOf_35 ⟨by decide, by decide⟩ ?_
      exact jn_36 _ (by first | exact (if_pos (by omega)).symm | exact (if_neg (by omega)).symm)
    · skip
      refine j_iconst hX dX12_inverseOf_31 ⟨by decide, by decide⟩ ?_
      refine j_goto (tgt := 36) hX dX12_inverseOf_32 (by decide) ?_
      exact jn_36 _ (by first | exact (if_pos (by omega)).symm | exact (if_neg (by omega)).symm)
  · skip
    obtain ⟨c_11, -, w_11⟩ := h_11.elim (fun q => absurd q.2.1 (by omega)) id
    have c39 : V_7 55 39 = 0 := by
      rw [x_7e] at c_11
      by_cases q : 0 < V_7 55 39
      · rw [if_pos q] at c_11; exact absurd c_11 (by decide)
      · omega
    refine j_iconst hX dX12_inverseOf_17 ⟨by decide, by decide⟩ ?_
    exact j_retI hR dX12_inverseOf_18 (by rw [w_11]; exact Or.inr (Or.inl ⟨rfl, by rw [up_n _ (by decide)]; exact c39, kn.u0 1, up_s ..⟩))
