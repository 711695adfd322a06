theorem KPS.d2 {V V' W : VV} (h : KPS V V') (e : W 55 21 = V' 55 21) (e' : ∀ b, W 67 b = V' 67 b) : KPS V W := by
  unfold KPS at h ⊢
  rw [e, show W 67 = V' 67 from funext e']
  exact h
theorem rot_t (a : Int) {n : Int} (hn : 1 ≤ n) : (0 ≤ a.tmod n + n ∧ a.tmod n + n ≤ 2 * n) ∧ (a.tmod n + n) % n = a % n := by
  have h1 := Int.tmod_lt_of_pos a (show 0 < n by omega)
  have h2 : -n < a.tmod n := by
    rcases Int.le_total 0 a with q | q
    · have := Int.tmod_nonneg n q; omega
    · have h3 := Int.tmod_nonneg n (show 0 ≤ -a by omega)
      have h4 := Int.tmod_lt_of_pos (-a) (show 0 < n by omega)
      rw [Int.neg_tmod] at h3 h4
      omega
  refine ⟨by omega, ?_⟩
  have h3 := Int.mul_tdiv_add_tmod a n
  rw [Int.add_emod_right]
  have h5 : a.tmod n = a - n * a.tdiv n := by omega
  rw [h5, Int.sub_mul_emod_self_left]
set_option maxHeartbeats 4000000 in
theorem ok_X12_grow {V : VV} {s : Int} (hmo : MO V) (hnm : 1 ≤ V 55 5 ∧ V 55 5 ≤ 16) (hpm : 0 ≤ V 55 21 ∧ V 55 21 ≤ 10) : Ok NA yX12_grow cX12_grow 2 (some .int) 2 43 [vA 55, vI s] V (pI (fun x9 V' => ((0 ≤ s ∧ s < V 55 1) ∧ V 55 5 < 16 ∧ x9 = V 55 5 + 1 ∧ V' 55 0 = 0 ∧ KPS V V' ∧ V' 55 5 = V 55 5 + 1 ∧ (∀ j, V' 59 j = if j = V 55 5 then s else V 59 j) ∧ (∀ b, b ≠ 0 → b ≠ 5 → b ≠ 21 → V' 55 b = V 55 b) ∧ ∀ a b, a ≠ 55 → a ≠ 67 → a ≠ 59 → V' a b = V a b) ∨ (¬ (0 ≤ s ∧ s < V 55 1) ∧ x9 = 0 ∧ V' = up (up V 55 0 0) 55 0 1) ∨ ((0 ≤ s ∧ s < V 55 1) ∧ 16 ≤ V 55 5 ∧ x9 = 0 ∧ V' = up (up V 55 0 0) 55 0 2))) := by
  refine Ok.intro (by decide +kernel) (Nat.le_of_ble_eq_true rfl) (fun X G hX hG hR hoa hoV => ?_)
  show J X G 0 [vA 55, vI s] [] V
  have hb9 := hmo.b
  refine j_al0 hX dX12_grow_0 rfl ?_
  refine j_iconst hX dX12_grow_1 ⟨by decide, by decide⟩ ?_
  refine j_putI hX hG fp_X12_126 rfl (by decide) dX12_grow_2 ?_
  obtain ⟨U, hU⟩ : ∃ U, U = up V 55 0 0 := ⟨_, rfl⟩
  rw [← hU]
  have u0 : U 55 0 = 0 := by rw [hU]; exact up_s ..
  have uF : ∀ b, b ≠ 0 → U 55 b = V 55 b := fun b hb => by rw [hU]; exact up_n _ (fun q => hb q.2)
  have uC : ∀ a b, a ≠ 55 → U a b = V a b := fun a b ha => by rw [hU]; exact up_n _ (fun q => ha q.1)
  have moU : MO U := hmo.t uF
  have u1 := uF 1 (by decide)
  have u5 := uF 5 (by decide)
  have u21 := uF 21 (by decide)
  refine j_al0 hX dX12_grow_5 rfl ?_
  refine j_al0 hX dX12_grow_6 rfl ?_
  refine j_il1 hX dX12_grow_7 ?_
  refine j_pVI1 (ci := 12) hX hG lk_X12_290 (ok_X12_isState (by omega)) (by decide) rfl (Nat.le_of_ble_eq_true rfl) (Nat.le_of_ble_eq_true rfl) (Nat.le_of_ble_eq_true rfl) rfl dX12_grow_8 ?_
  refine j_iconst hX dX12_grow_11 ⟨by decide, by decide⟩ ?_
  refine j_cVI2 (ci := 12) hX hG lk_X12_168 (ok_X12_may u0 (by decide)) (by decide) rfl (Nat.le_of_ble_eq_true rfl) (Nat.le_of_ble_eq_true rfl) (Nat.le_of_ble_eq_true rfl) rfl dX12_grow_12 (fun x_12 V_12 h_12 => ?_)
  skip
  refine j_if_eq (tgt := 40) hX dX12_grow_15 (by decide) (fun h_15 => ?_) (fun h_15 => ?_)
  · skip
    refine j_iconst hX dX12_grow_40 ⟨by decide, by decide⟩ ?_
    exact j_retI hR dX12_grow_41 (by first
      | (obtain ⟨c, -, w9⟩ := h_34.elim (fun q => absurd q.2.1 (by omega)) id
         refine Or.inr (Or.inr ⟨by omega, Classical.byContradiction fun y => ?_, rfl, by rw [w9, hU]⟩)
         rw [hs9, if_pos (by omega)] at c; exact absurd c (by decide))
      | (obtain ⟨c, -, w9⟩ := h_12.elim (fun q => absurd q.2.1 (by omega)) id
         exact Or.inr (Or.inl ⟨fun y => by rw [if_pos (by omega)] at c; exact absurd c (by decide), rfl, by rw [w9, hU]⟩)))
  · skip
    obtain ⟨c_12, -, w_12⟩ := h_12.elim id (fun q => absurd q.2.1 (by omega))
    have w2_12 := w_12.symm
    subst w2_12
    have c9 : 0 ≤ s ∧ s < U 55 1 := Classical.byContradiction fun y => c_12 (if_neg y)
    have jn_33 : ∀ (z : Int), (z = if U 55 5 < 16 then 1 else 0) → J X G 33 [vA 55, vI s] [vI z, vA 55] U := by
      intro z hs9
      refine j_iconst hX dX12_grow_33 ⟨by decide, by decide⟩ ?_
      refine j_cVI2 (ci := 12) hX hG lk_X12_168 (ok_X12_may u0 (by decide)) (by decide) rfl (Nat.le_of_ble_eq_true rfl) (Nat.le_of_ble_eq_true rfl) (Nat.le_of_ble_eq_true rfl) rfl dX12_grow_34 (fun x_34 V_34 h_34 => ?_)
      skip
      refine j_if_ne (tgt := 42) hX dX12_grow_37 (by decide) (fun h_37 => ?_) (fun h_37 => ?_)
      · skip
        obtain ⟨c_34, -, w_34⟩ := h_34.elim id (fun q => absurd q.2.1 (by omega))
        have w2_34 := w_34.symm
        subst w2_34
        have d9 : U 55 5 < 16 := Classical.byContradiction fun y => c_34 (by rw [hs9, if_neg y])
        refine j_al0 hX dX12_grow_42 rfl ?_
        refine j_cVV0 (ci := 12) hX hG lk_X12_328 (ok_X12_keeps moU (by omega) (by omega)) (by decide) rfl (Nat.le_of_ble_eq_true rfl) (Nat.le_of_ble_eq_true rfl) (Nat.le_of_ble_eq_true rfl) rfl dX12_grow_43 (fun V_43 h_43 => ?_)
        obtain ⟨k_43, f_43⟩ := h_43
        refine j_al0 hX dX12_grow_46 rfl ?_
        refine j_getR (q := 59) hX hG fl_X12_19 rfl rfl (by decide) dX12_grow_47 ?_
        refine j_al0 hX dX12_grow_50 rfl ?_
        refine j_getI hX hG fl_X12_142 (Or.inl rfl) (by decide) dX12_grow_51 ?_
        refine j_il1 hX dX12_grow_54 ?_
        refine j_iast (n := 16) hX hG (by decide) (by rw [f_43.1 5 (by decide)]; omega) dX12_grow_55 ?_
        refine j_al0 hX dX12_grow_56 rfl ?_
        refine j_dup hX dX12_grow_57 rfl ?_
        refine j_getI hX hG fl_X12_142 (Or.inl rfl) (by decide) dX12_grow_58 ?_
        refine j_iconst hX dX12_grow_61 ⟨by decide, by decide⟩ ?_
        refine j_iadd hX dX12_grow_62 (by rw [up_n _ (by omega), f_43.1 5 (by decide)]; omega) ?_
        refine j_putI hX hG fp_X12_142 rfl (by decide) dX12_grow_63 ?_
        refine j_al0 hX dX12_grow_66 rfl ?_
        refine j_getI hX hG fl_X12_142 (Or.inl rfl) (by decide) dX12_grow_67 ?_
        exact j_retI hR dX12_grow_70 (by
      have n5 : V_43 55 5 = V 55 5 := (f_43.1 5 (by decide)).trans u5
      refine Or.inl ⟨by omega, by omega, by rw [up_s, up_n _ (by omega), n5], ?_, (k_43.c uF uC).d2 (by rw [up_n _ (by omega), up_n _ (by omega)]) (fun b => by rw [up_n _ (by omega), up_n _ (by omega)]), by rw [up_s, up_n _ (by omega), n5], fun j => ?_, fun b b0 b1 b2 => ?_, fun a b a0 a1 a2 => ?_⟩
      · rw [up_n _ (by omega), up_n _ (by omega), f_43.1 0 (by decide)]; exact u0
      · rw [up_n _ (by omega), n5]
        by_cases y : j = V 55 5
        · rw [if_pos y, y, up_s]
        · rw [if_neg y, up_n _ (by omega), f_43.2 59 j (by decide) (by decide)]; exact uC 59 j (by decide)
      · rw [up_n _ (by omega), up_n _ (by omega), f_43.1 b b2]; exact uF b b0
      · rw [up_n _ (by omega), up_n _ (by omega), f_43.2 a b a0 a1]; exact uC a b a0)
      · skip
        refine j_iconst hX dX12_grow_40 ⟨by decide, by decide⟩ ?_
        exact j_retI hR dX12_grow_41 (by first
      | (obtain ⟨c, -, w9⟩ := h_34.elim (fun q => absurd q.2.1 (by omega)) id
         refine Or.inr (Or.inr ⟨by omega, Classical.byContradiction fun y => ?_, rfl, by rw [w9, hU]⟩)
         rw [hs9, if_pos (by omega)] at c; exact absurd c (by decide))
      | (obtain ⟨c, -, w9⟩ := h_12.elim (fun q => absurd q.2.1 (by omega)) id
         exact Or.inr (Or.inl ⟨fun y => by rw [if_pos (by omega)] at c; exact absurd c (by decide), rfl, by rw [w9, hU]⟩)))
    refine j_al0 hX dX12_grow_18 rfl ?_
    refine j_al0 hX dX12_grow_19 rfl ?_
    refine j_getI hX hG fl_X12_142 (Or.inl rfl) (by decide) dX12_grow_20 ?_
    refine j_bipush hX dX12_grow_23 (by decide) ⟨by decide, by decide⟩ ?_
    refine j_icmp_ge (tgt := 32) hX dX12_grow_25 (by decide) (fun h_25 => ?_) (fun h_25 => ?_)
    · skip
      refine j_iconst hX dX12_grow_32 ⟨by decide, by decide⟩ ?_
      exact jn_33 _ (by first | exact (if_pos (by omega)).symm | exact (if_neg (by omega)).symm)
    · skip
      refine j_iconst hX dX12_grow_28 ⟨by decide, by decide⟩ ?_
      refine j_goto (tgt := 33) hX dX12_grow_29 (by decide) ?_
      exact jn_33 _ (by first | exact (if_pos (by omega)).symm | exact (if_neg (by omega)).symm)
set_option maxHeartbeats 4000000 in
theorem ok_X12_rotate {V : VV} {a : Int} (hmo : MO V) (hnm : 1 ≤ V 55 5 ∧ V 55 5 ≤ 16) (hpm : 0 ≤ V 55 21 ∧ V 55 21 ≤ 10) : Ok NA yX12_rotate cX12_rotate 4 (some .int) 1 22 [vA 55, vI a] V (pI (fun x9 V' => x9 = V' 59 0 ∧ V' 55 0 = 0 ∧ KPS V V' ∧ (∀ k, 0 ≤ k → k < V 55 5 → V' 59 k = V 59 ((k + a % V 55 5) % V 55 5)) ∧ (∀ b, b ≠ 0 → b ≠ 21 → V' 55 b = V 55 b) ∧ ∀ a b, a ≠ 55 → a ≠ 67 → a ≠ 59 → a ≠ 84 → V' a b = V a b)) := by
  refine Ok.intro (by decide +kernel) (Nat.le_of_ble_eq_true rfl) (fun X G hX hG hR hoa hoV => ?_)
  show J X G 0 [vA 55, vI a, vU, vU] [] V
  have hb9 := hmo.b
  have tn := rot_t a (n := V 55 5) (by omega)
  have hmd := md_b a (n := V 55 5) (by omega)
  refine j_al0 hX dX12_rotate_0 rfl ?_
  refine j_iconst hX dX12_rotate_1 ⟨by decide, by decide⟩ ?_
  refine j_putI hX hG fp_X12_126 rfl (by decide) dX12_rotate_2 ?_
  obtain ⟨U, hU⟩ : ∃ U, U = up V 55 0 0 := ⟨_, rfl⟩
  rw [← hU]
  have u0 : U 55 0 = 0 := by rw [hU]; exact up_s ..
  have uF : ∀ b, b ≠ 0 → U 55 b = V 55 b := fun b hb => by rw [hU]; exact up_n _ (fun q => hb q.2)
  have uC : ∀ a b, a ≠ 55 → U a b = V a b := fun a b ha => by rw [hU]; exact up_n _ (fun q => ha q.1)
  have moU : MO U := hmo.t uF
  have u1 := uF 1 (by decide)
  have u5 := uF 5 (by decide)
  have u21 := uF 21 (by decide)
  refine j_al0 hX dX12_rotate_5 rfl ?_
  refine j_cVV0 (ci := 12) hX hG lk_X12_328 (ok_X12_keeps moU (by omega) (by omega)) (by decide) rfl (Nat.le_of_ble_eq_true rfl) (Nat.le_of_ble_eq_true rfl) (Nat.le_of_ble_eq_true rfl) rfl dX12_rotate_6 (fun V_6 h_6 => ?_)
  obtain ⟨k_6, f_6⟩ := h_6
  have n5 : V_6 55 5 = V 55 5 := (f_6.1 5 (by decide)).trans u5
  have r59 : ∀ b, V_6 59 b = V 59 b := fun b => (f_6.2 59 b (by decide) (by decide)).trans (uC 59 b (by decide))
  refine j_il1 hX dX12_rotate_9 ?_
  refine j_al0 hX dX12_rotate_10 rfl ?_
  refine j_getI hX hG fl_X12_142 (Or.inl rfl) (by decide) dX12_rotate_11 ?_
  refine j_eqS (st' := [vI (V 55 5), vI a]) (by rw [n5]) ?_
  refine j_iremT hX dX12_rotate_14 (by omega) ?_
  refine j_al0 hX dX12_rotate_15 rfl ?_
  refine j_getI hX hG fl_X12_142 (Or.inl rfl) (by decide) dX12_rotate_16 ?_
  refine j_eqS (st' := [vI (V 55 5), vI (a.tmod (V 55 5))]) (by rw [n5]) ?_
  refine j_iadd hX dX12_rotate_19 (by omega) ?_
  refine j_al0 hX dX12_rotate_20 rfl ?_
  refine j_getI hX hG fl_X12_142 (Or.inl rfl) (by decide) dX12_rotate_21 ?_
  refine j_eqS (st' := [vI (V 55 5), vI (a.tmod (V 55 5) + V 55 5)]) (by rw [n5]) ?_
  refine j_irem hX dX12_rotate_24 (by omega) tn.1.1 ?_
  refine j_eqS (st' := [vI (a % V 55 5)]) (by rw [tn.2]) ?_
  refine j_is2 hX dX12_rotate_25 rfl ?_
  refine j_iconst hX dX12_rotate_26 ⟨by decide, by decide⟩ ?_
  refine j_is3 hX dX12_rotate_27 rfl ?_
  have lp_28 : ∀ (f9 : Nat) (k : Int) (W : VV), (0 ≤ k ∧ k ≤ V 55 5) → (fr [84] V_6 W) → (∀ j, 0 ≤ j → j < k → W 84 j = V 59 ((j + a % V 55 5) % V 55 5)) → ((V 55 5 - k).toNat) < f9 → J X G 28 [vA 55, vI a, vI (a % V 55 5), vI k] [] W := by
    intro f9
    induction f9 with
    | zero => intro k W _ _ _ hm; exact absurd hm (Nat.not_lt_zero _)
    | succ f9 ih_28 =>
      intro k W hk hs hTT hm
      refine j_il3 hX dX12_rotate_28 ?_
      refine j_al0 hX dX12_rotate_29 rfl ?_
      refine j_getI hX hG fl_X12_142 (Or.inl rfl) (by decide) dX12_rotate_30 ?_
      refine j_eqS (st' := [vI (V 55 5), vI k]) (by rw [hs 55 5 (by decide), n5]) ?_
      refine j_icmp_ge (tgt := 61) hX dX12_rotate_33 (by decide) (fun h_33 => ?_) (fun h_33 => ?_)
      · skip
        refine j_iconst hX dX12_rotate_61 ⟨by decide, by decide⟩ ?_
        refine j_is3 hX dX12_rotate_62 rfl ?_
        have lp_63 : ∀ (f9 : Nat) (m : Int) (Z : VV), (0 ≤ m ∧ m ≤ V 55 5) → (fr [59] W Z) → (∀ j, 0 ≤ j → j < m → Z 59 j = V 59 ((j + a % V 55 5) % V 55 5)) → ((V 55 5 - m).toNat) < f9 → J X G 63 [vA 55, vI a, vI (a % V 55 5), vI m] [] Z := by
          intro f9
          induction f9 with
          | zero => intro m Z _ _ _ hm; exact absurd hm (Nat.not_lt_zero _)
          | succ f9 ih_63 =>
            intro m Z hm1 hs2 hLL hm
            refine j_il3 hX dX12_rotate_63 ?_
            refine j_al0 hX dX12_rotate_64 rfl ?_
            refine j_getI hX hG fl_X12_142 (Or.inl rfl) (by decide) dX12_rotate_65 ?_
            refine j_eqS (st' := [vI (V 55 5), vI m]) (by rw [hs2 55 5 (by decide), hs 55 5 (by decide), n5]) ?_
            refine j_icmp_ge (tgt := 89) hX dX12_rotate_68 (by decide) (fun h_68 => ?_) (fun h_68 => ?_)
            · skip
              refine j_al0 hX dX12_rotate_89 rfl ?_
              refine j_getR (q := 59) hX hG fl_X12_19 rfl rfl (by decide) dX12_rotate_90 ?_
              refine j_iconst hX dX12_rotate_93 ⟨by decide, by decide⟩ ?_
              refine j_iald (n := 16) hX hG (by decide) (by omega) dX12_rotate_94 ?_
              exact j_retI hR dX12_rotate_95 (by
      have zz : ∀ a b, a ≠ 84 → a ≠ 59 → Z a b = V_6 a b := fun a b h1 h2 => (hs2 a b (by simpa using h2)).trans (hs a b (by simpa using h1))
      exact ⟨rfl, (zz 55 0 (by decide) (by decide)).trans ((f_6.1 0 (by decide)).trans u0), (k_6.c uF uC).d2 (zz 55 21 (by decide) (by decide)) (fun b => zz 67 b (by decide) (by decide)), fun k' k0 k1 => hLL k' k0 (by omega), fun b b0 b1 => (zz 55 b (by decide) (by decide)).trans ((f_6.1 b b1).trans (uF b b0)), fun a b a0 a1 a2 a3 => (zz a b a3 a2).trans ((f_6.2 a b a0 a1).trans (uC a b a0))⟩)
            · skip
              refine j_al0 hX dX12_rotate_71 rfl ?_
              refine j_getR (q := 59) hX hG fl_X12_19 rfl rfl (by decide) dX12_rotate_72 ?_
              refine j_il3 hX dX12_rotate_75 ?_
              refine j_al0 hX dX12_rotate_76 rfl ?_
              refine j_getR (q := 84) hX hG fl_X12_101 rfl rfl (by decide) dX12_rotate_77 ?_
              refine j_il3 hX dX12_rotate_80 ?_
              refine j_iald (n := 16) hX hG (by decide) (by omega) dX12_rotate_81 ?_
              refine j_iast (n := 16) hX hG (by decide) (by omega) dX12_rotate_82 ?_
              refine j_inc3 hX dX12_rotate_83 rfl (by omega) ?_
              refine j_goto (tgt := 63) hX dX12_rotate_86 (by decide) ?_
              exact ih_63 _ _ (by omega) (fr_u hs2 (by decide)) (lt_stepI (fun j j0 j1 => by rw [up_n _ (by omega)]; exact hLL j j0 j1) (by rw [up_s, hs2 84 _ (by decide)]; exact hTT _ (by omega) (by omega))) (by omega)
        exact lp_63 _ _ _ (by omega) fr_0 (fun j j0 j1 => by omega) (Nat.lt_succ_self _)
      · skip
        have hmk := md_b (k + a % V 55 5) (n := V 55 5) (by omega)
        refine j_al0 hX dX12_rotate_36 rfl ?_
        refine j_getR (q := 84) hX hG fl_X12_101 rfl rfl (by decide) dX12_rotate_37 ?_
        refine j_il3 hX dX12_rotate_40 ?_
        refine j_al0 hX dX12_rotate_41 rfl ?_
        refine j_getR (q := 59) hX hG fl_X12_19 rfl rfl (by decide) dX12_rotate_42 ?_
        refine j_il3 hX dX12_rotate_45 ?_
        refine j_il2 hX dX12_rotate_46 ?_
        refine j_iadd hX dX12_rotate_47 (by omega) ?_
        refine j_al0 hX dX12_rotate_48 rfl ?_
        refine j_getI hX hG fl_X12_142 (Or.inl rfl) (by decide) dX12_rotate_49 ?_
        refine j_eqS (st' := [vI (V 55 5), vI (k + a % V 55 5), vA 59, vI k, vA 84]) (by rw [hs 55 5 (by decide), n5]) ?_
        refine j_irem hX dX12_rotate_52 (by omega) (by omega) ?_
        refine j_iald (n := 16) hX hG (by decide) (by omega) dX12_rotate_53 ?_
        refine j_iast (n := 16) hX hG (by decide) (by omega) dX12_rotate_54 ?_
        refine j_inc3 hX dX12_rotate_55 rfl (by omega) ?_
        refine j_goto (tgt := 28) hX dX12_rotate_58 (by decide) ?_
        exact ih_28 _ _ (by omega) (fr_u hs (by decide)) (lt_stepI (fun j j0 j1 => by rw [up_n _ (by omega)]; exact hTT j j0 j1) (by rw [up_s, hs 59 _ (by decide), r59])) (by omega)
  exact lp_28 _ _ _ (by omega) fr_0 (fun j j0 j1 => by omega) (Nat.lt_succ_self _)
set_option maxHeartbeats 4000000 in
theorem ok_X12_keep {V : VV} {a : Int} (hnm : 1 ≤ V 55 5 ∧ V 55 5 ≤ 16) : Ok NA yX12_keep cX12_keep 3 (some .int) 1 22 [vA 55, vI a] V (pI (fun x9 V' => ((0 ≤ a ∧ a ≤ 1) ∧ x9 = V 55 5 ∧ V' 55 0 = 0 ∧ (∀ k, 0 ≤ k → k < V 55 5 → V' 65 (16 * a + k) = V 59 k) ∧ (∀ j, (j < 16 * a ∨ 16 * a + 16 ≤ j) → V' 65 j = V 65 j) ∧ (∀ j, V' 66 j = if j = a then V 55 5 else V 66 j) ∧ (∀ b, b ≠ 0 → V' 55 b = V 55 b) ∧ ∀ c b, c ≠ 55 → c ≠ 65 → c ≠ 66 → V' c b = V c b) ∨ (¬ (0 ≤ a ∧ a ≤ 1) ∧ x9 = 0 ∧ V' = up (up V 55 0 0) 55 0 1))) := by
  refine Ok.intro (by decide +kernel) (Nat.le_of_ble_eq_true rfl) (fun X G hX hG hR hoa hoV => ?_)
  show J X G 0 [vA 55, vI a, vU] [] V
  refine j_al0 hX dX12_keep_0 rfl ?_
  refine j_iconst hX dX12_keep_1 ⟨by decide, by decide⟩ ?_
  refine j_putI hX hG fp_X12_126 rfl (by decide) dX12_keep_2 ?_
  obtain ⟨U, hU⟩ : ∃ U, U = up V 55 0 0 := ⟨_, rfl⟩
  rw [← hU]
  have u0 : U 55 0 = 0 := by rw [hU]; exact up_s ..
  have uF : ∀ b, b ≠ 0 → U 55 b = V 55 b := fun b hb => by rw [hU]; exact up_n _ (fun q => hb q.2)
  have uC : ∀ a b, a ≠ 55 → U a b = V a b := fun a b ha => by rw [hU]; exact up_n _ (fun q => ha q.1)
  have u5 := uF 5 (by decide)
  refine j_al0 hX dX12_keep_5 rfl ?_
  refine j_il1 hX dX12_keep_6 ?_
  refine j_iconst hX dX12_keep_7 ⟨by decide, by decide⟩ ?_
  refine j_iconst hX dX12_keep_8 ⟨by decide, by decide⟩ ?_
  refine j_pSI3 hX hG lk_X12_172 (ok_X12_isIn ) (Nat.le_of_ble_eq_true rfl) (Nat.le_of_ble_eq_true rfl) (Nat.le_of_ble_eq_true rfl) rfl dX12_keep_9 ?_
  refine j_iconst hX dX12_keep_12 ⟨by decide, by decide⟩ ?_
  refine j_cVI2 (ci := 12) hX hG lk_X12_168 (ok_X12_may u0 (by decide)) (by decide) rfl (Nat.le_of_ble_eq_true rfl) (Nat.le_of_ble_eq_true rfl) (Nat.le_of_ble_eq_true rfl) rfl dX12_keep_13 (fun x_13 V_13 h_13 => ?_)
  skip
  refine j_if_ne (tgt := 21) hX dX12_keep_16 (by decide) (fun h_16 => ?_) (fun h_16 => ?_)
  · skip
    obtain ⟨c_13, -, w_13⟩ := h_13.elim id (fun q => absurd q.2.1 (by omega))
    have w2_13 := w_13.symm
    subst w2_13
    have c9 : 0 ≤ a ∧ a ≤ 1 := Classical.byContradiction fun y => c_13 (if_neg y)
    refine j_iconst hX dX12_keep_21 ⟨by decide, by decide⟩ ?_
    refine j_is2 hX dX12_keep_22 rfl ?_
    have lp_23 : ∀ (f9 : Nat) (k : Int) (W : VV), (0 ≤ k ∧ k ≤ V 55 5) → (fr [65] U W) → (∀ j, 0 ≤ j → j < k → W 65 (16 * a + j) = V 59 j) → (∀ j, (j < 16 * a ∨ 16 * a + 16 ≤ j) → W 65 j = V 65 j) → ((V 55 5 - k).toNat) < f9 → J X G 23 [vA 55, vI a, vI k] [] W := by
      intro f9
      induction f9 with
      | zero => intro k W _ _ _ _ hm; exact absurd hm (Nat.not_lt_zero _)
      | succ f9 ih_23 =>
        intro k W hk hs hTT hLL hm
        refine j_il2 hX dX12_keep_23 ?_
        refine j_al0 hX dX12_keep_24 rfl ?_
        refine j_getI hX hG fl_X12_142 (Or.inl rfl) (by decide) dX12_keep_25 ?_
        refine j_eqS (st' := [vI (V 55 5), vI k]) (by rw [hs 55 5 (by decide), u5]) ?_
        refine j_icmp_ge (tgt := 54) hX dX12_keep_28 (by decide) (fun h_28 => ?_) (fun h_28 => ?_)
        · skip
          refine j_al0 hX dX12_keep_54 rfl ?_
          refine j_getR (q := 66) hX hG fl_X12_41 rfl rfl (by decide) dX12_keep_55 ?_
          refine j_il1 hX dX12_keep_58 ?_
          refine j_al0 hX dX12_keep_59 rfl ?_
          refine j_getI hX hG fl_X12_142 (Or.inl rfl) (by decide) dX12_keep_60 ?_
          refine j_eqS (st' := [vI (V 55 5), vI a, vA 66]) (by rw [hs 55 5 (by decide), u5]) ?_
          refine j_iast (n := 2) hX hG (by decide) (by omega) dX12_keep_63 ?_
          refine j_al0 hX dX12_keep_64 rfl ?_
          refine j_getI hX hG fl_X12_142 (Or.inl rfl) (by decide) dX12_keep_65 ?_
          exact j_retI hR dX12_keep_68 (by
      refine Or.inl ⟨c9, by rw [up_n _ (by omega), hs 55 5 (by decide), u5], by rw [up_n _ (by omega), hs 55 0 (by decide), u0], fun k' k0 k1 => by rw [up_n _ (by omega)]; exact hTT k' k0 (by omega), fun j jj => by rw [up_n _ (by omega)]; exact hLL j jj, fun j => ?_, fun b b0 => by rw [up_n _ (by omega), hs 55 b (by decide)]; exact uF b b0, fun c b c0 c1 c2 => by rw [up_n _ (by omega), hs c b (by simpa using c1)]; exact uC c b c0⟩
      by_cases y : j = a
      · rw [if_pos y, y, up_s]
      · rw [if_neg y, up_n _ (by omega), hs 66 j (by decide)]; exact uC 66 j (by decide))
        · skip
          refine j_al0 hX dX12_keep_31 rfl ?_
          refine j_getR (q := 65) hX hG fl_X12_38 rfl rfl (by decide) dX12_keep_32 ?_
          refine j_bipush hX dX12_keep_35 (by decide) ⟨by decide, by decide⟩ ?_
          refine j_il1 hX dX12_keep_37 ?_
          refine j_imul hX dX12_keep_38 (by omega) ?_
          refine j_il2 hX dX12_keep_39 ?_
          refine j_iadd hX dX12_keep_40 (by omega) ?_
          refine j_al0 hX dX12_keep_41 rfl ?_
          refine j_getR (q := 59) hX hG fl_X12_19 rfl rfl (by decide) dX12_keep_42 ?_
          refine j_il2 hX dX12_keep_45 ?_
          refine j_iald (n := 16) hX hG (by decide) (by omega) dX12_keep_46 ?_
          refine j_iast (n := 32) hX hG (by decide) (by omega) dX12_keep_47 ?_
          refine j_inc2 hX dX12_keep_48 rfl (by omega) ?_
          refine j_goto (tgt := 23) hX dX12_keep_51 (by decide) ?_
          exact ih_23 _ _ (by omega) (fr_u hs (by decide)) (lt_stepI (fun j j0 j1 => by rw [up_n _ (by omega)]; exact hTT j j0 j1) (by rw [up_s, hs 59 k (by decide)]; exact uC 59 k (by decide))) (fun j jj => by rw [up_n _ (by omega)]; exact hLL j jj) (by omega)
    exact lp_23 _ _ _ (by omega) fr_0 (fun j j0 j1 => by omega) (fun j _ => uC 65 j (by decide)) (Nat.lt_succ_self _)
  · skip
    obtain ⟨c_13, -, w_13⟩ := h_13.elim (fun q => absurd q.2.1 (by omega)) id
    refine j_iconst hX dX12_keep_19 ⟨by decide, by decide⟩ ?_
    exact j_retI hR dX12_keep_20 (Or.inr ⟨fun y => by rw [if_pos y] at c_13; exact absurd c_13 (by decide), rfl, by rw [w_13, hU]⟩)
