/-- the model's group, by its number -/
def MG (V : VV) (q : Nat) : Prop := q < 7 ∧ V 55 1 = gO q ∧ (∀ x y : Int, 0 ≤ x → x < gO q → 0 ≤ y → y < gO q → V 56 (gO q * x + y) = gM q x y) ∧ ∀ x : Int, 0 ≤ x → x < gO q → V 57 x = gV q x
theorem ix_b {q : Nat} (hq : q < 7) {x y : Int} (hx : 0 ≤ x ∧ x < gO q) (hy : 0 ≤ y ∧ y < gO q) : 0 ≤ (gO q : Int) * x ∧ (gO q : Int) * x + y < 36 := by
  have h := gO_le hq
  have h1 : 0 ≤ (gO q : Int) * x := Int.mul_nonneg (by omega) hx.1
  have h2 : (gO q : Int) * x ≤ gO q * (gO q - 1) := Int.mul_le_mul_of_nonneg_left (by omega) (by omega)
  have h3 : (gO q : Int) * (gO q - 1) + gO q ≤ 36 := by
    have e : ∀ n : Nat, 2 ≤ n ∧ n ≤ 6 → (n : Int) * (n - 1) + n ≤ 36 := by
      intro n hn
      rcases (by omega : n = 2 ∨ n = 3 ∨ n = 4 ∨ n = 5 ∨ n = 6) with r | r | r | r | r <;> subst r <;> decide
    exact e _ h
  omega
theorem by_eq {V : Int} {k : Int} (hk : 0 ≤ k) : band 32 (V / 2 ^ (24 - 8 * (k % 4)).toNat) 255 = byteF V (k % 4) := rfl
set_option maxHeartbeats 4000000 in
theorem ok_X12_thrown {V : VV}  : Ok NA yX12_thrown cX12_thrown 1 (some .int) 0 0 [vA 55] V (pI (fun x9 V' => x9 = V 55 0 ∧ V' = V)) := by
  refine Ok.intro (by decide +kernel) (Nat.le_of_ble_eq_true rfl) (fun X G hX hG hR hoa hoV => ?_)
  show J X G 0 [vA 55] [] V
  refine j_al0 hX dX12_thrown_0 rfl ?_
  refine j_getI hX hG fl_X12_126 (Or.inl rfl) (by decide) dX12_thrown_1 ?_
  exact j_retI hR dX12_thrown_4 ⟨by first | rfl | omega | (exfalso; omega), rfl⟩
set_option maxHeartbeats 4000000 in
theorem ok_X12_isIn {V : VV} {v a b : Int}  : Ok NA yX12_isIn cX12_isIn 3 (some .boolean) 0 0 [vI v, vI a, vI b] V (pI (fun x9 V' => x9 = (if a ≤ v ∧ v ≤ b then 1 else 0) ∧ V' = V)) := by
  refine Ok.intro (by decide +kernel) (Nat.le_of_ble_eq_true rfl) (fun X G hX hG hR hoa hoV => ?_)
  show J X G 0 [vI v, vI a, vI b] [] V
  refine j_il0 hX dX12_isIn_0 ?_
  refine j_il1 hX dX12_isIn_1 ?_
  refine j_icmp_lt (tgt := 14) hX dX12_isIn_2 (by decide) (fun h_2 => ?_) (fun h_2 => ?_)
  · skip
    refine j_iconst hX dX12_isIn_14 ⟨by decide, by decide⟩ ?_
    exact j_retZ hR dX12_isIn_15 (by omega) ⟨by first | exact (if_pos (by omega)).symm | exact (if_neg (by omega)).symm, rfl⟩
  · skip
    refine j_il0 hX dX12_isIn_5 ?_
    refine j_il2 hX dX12_isIn_6 ?_
    refine j_icmp_gt (tgt := 14) hX dX12_isIn_7 (by decide) (fun h_7 => ?_) (fun h_7 => ?_)
    · skip
      refine j_iconst hX dX12_isIn_14 ⟨by decide, by decide⟩ ?_
      exact j_retZ hR dX12_isIn_15 (by omega) ⟨by first | exact (if_pos (by omega)).symm | exact (if_neg (by omega)).symm, rfl⟩
    · skip
      refine j_iconst hX dX12_isIn_10 ⟨by decide, by decide⟩ ?_
      refine j_goto (tgt := 15) hX dX12_isIn_11 (by decide) ?_
      exact j_retZ hR dX12_isIn_15 (by omega) ⟨by first | exact (if_pos (by omega)).symm | exact (if_neg (by omega)).symm, rfl⟩
set_option maxHeartbeats 4000000 in
theorem ok_X12_may {V : VV} {b p : Int} (h0 : V 55 0 = 0) (hp : p ≠ 0) : Ok NA yX12_may cX12_may 3 (some .boolean) 0 0 [vA 55, vI b, vI p] V (pI (fun x9 V' => (b ≠ 0 ∧ x9 = 1 ∧ V' = V) ∨ (b = 0 ∧ x9 = 0 ∧ V' = up V 55 0 p))) := by
  refine Ok.intro (by decide +kernel) (Nat.le_of_ble_eq_true rfl) (fun X G hX hG hR hoa hoV => ?_)
  show J X G 0 [vA 55, vI b, vI p] [] V
  refine j_il1 hX dX12_may_0 ?_
  refine j_if_ne (tgt := 16) hX dX12_may_1 (by decide) (fun h_1 => ?_) (fun h_1 => ?_)
  · skip
    refine j_al0 hX dX12_may_16 rfl ?_
    refine j_getI hX hG fl_X12_126 (Or.inl rfl) (by decide) dX12_may_17 ?_
    refine j_if_ne (tgt := 27) hX dX12_may_20 (by decide) (fun h_20 => ?_) (fun h_20 => ?_)
    · skip
      refine j_iconst hX dX12_may_27 ⟨by decide, by decide⟩ ?_
      exact j_retZ hR dX12_may_28 (by omega) (by first | exact Or.inl ⟨h_1, rfl, rfl⟩ | exact Or.inr ⟨h_1, rfl, rfl⟩ | (exfalso; first | omega | (rw [up_s] at h_20; omega)))
    · skip
      refine j_iconst hX dX12_may_23 ⟨by decide, by decide⟩ ?_
      refine j_goto (tgt := 28) hX dX12_may_24 (by decide) ?_
      exact j_retZ hR dX12_may_28 (by omega) (by first | exact Or.inl ⟨h_1, rfl, rfl⟩ | exact Or.inr ⟨h_1, rfl, rfl⟩ | (exfalso; first | omega | (rw [up_s] at h_20; omega)))
  · skip
    refine j_al0 hX dX12_may_4 rfl ?_
    refine j_getI hX hG fl_X12_126 (Or.inl rfl) (by decide) dX12_may_5 ?_
    refine j_if_ne (tgt := 16) hX dX12_may_8 (by decide) (fun h_8 => ?_) (fun h_8 => ?_)
    · skip
      refine j_al0 hX dX12_may_16 rfl ?_
      refine j_getI hX hG fl_X12_126 (Or.inl rfl) (by decide) dX12_may_17 ?_
      refine j_if_ne (tgt := 27) hX dX12_may_20 (by decide) (fun h_20 => ?_) (fun h_20 => ?_)
      · skip
        refine j_iconst hX dX12_may_27 ⟨by decide, by decide⟩ ?_
        exact j_retZ hR dX12_may_28 (by omega) (by first | exact Or.inl ⟨h_1, rfl, rfl⟩ | exact Or.inr ⟨h_1, rfl, rfl⟩ | (exfalso; first | omega | (rw [up_s] at h_20; omega)))
      · skip
        refine j_iconst hX dX12_may_23 ⟨by decide, by decide⟩ ?_
        refine j_goto (tgt := 28) hX dX12_may_24 (by decide) ?_
        exact j_retZ hR dX12_may_28 (by omega) (by first | exact Or.inl ⟨h_1, rfl, rfl⟩ | exact Or.inr ⟨h_1, rfl, rfl⟩ | (exfalso; first | omega | (rw [up_s] at h_20; omega)))
    · skip
      refine j_al0 hX dX12_may_11 rfl ?_
      refine j_il2 hX dX12_may_12 ?_
      refine j_putI hX hG fp_X12_126 rfl (by decide) dX12_may_13 ?_
      refine j_al0 hX dX12_may_16 rfl ?_
      refine j_getI hX hG fl_X12_126 (Or.inl rfl) (by decide) dX12_may_17 ?_
      refine j_if_ne (tgt := 27) hX dX12_may_20 (by decide) (fun h_20 => ?_) (fun h_20 => ?_)
      · skip
        refine j_iconst hX dX12_may_27 ⟨by decide, by decide⟩ ?_
        exact j_retZ hR dX12_may_28 (by omega) (by first | exact Or.inl ⟨h_1, rfl, rfl⟩ | exact Or.inr ⟨h_1, rfl, rfl⟩ | (exfalso; first | omega | (rw [up_s] at h_20; omega)))
      · skip
        refine j_iconst hX dX12_may_23 ⟨by decide, by decide⟩ ?_
        refine j_goto (tgt := 28) hX dX12_may_24 (by decide) ?_
        exact j_retZ hR dX12_may_28 (by omega) (by first | exact Or.inl ⟨h_1, rfl, rfl⟩ | exact Or.inr ⟨h_1, rfl, rfl⟩ | (exfalso; first | omega | (rw [up_s] at h_20; omega)))
set_option maxHeartbeats 4000000 in
theorem ok_X12_times {V : VV} {x y : Int} {q : Nat} (hmg : MG V q) (hx : 0 ≤ x ∧ x < gO q) (hy : 0 ≤ y ∧ y < gO q) : Ok NA yX12_times cX12_times 3 (some .int) 0 0 [vA 55, vI x, vI y] V (pI (fun x9 V' => x9 = gM q x y ∧ V' = V)) := by
  refine Ok.intro (by decide +kernel) (Nat.le_of_ble_eq_true rfl) (fun X G hX hG hR hoa hoV => ?_)
  show J X G 0 [vA 55, vI x, vI y] [] V
  have hq6 := gO_le hmg.1
  have hg1 := hmg.2.1
  have ix := ix_b hmg.1 hx hy
  refine j_al0 hX dX12_times_0 rfl ?_
  refine j_getR (q := 56) hX hG fl_X12_7 rfl rfl (by decide) dX12_times_1 ?_
  refine j_al0 hX dX12_times_4 rfl ?_
  refine j_getI hX hG fl_X12_136 (Or.inl rfl) (by decide) dX12_times_5 ?_
  refine j_il1 hX dX12_times_8 ?_
  refine j_eqS (st' := [vI x, vI (gO q), vA 56]) (by rw [hg1]) ?_
  refine j_imul hX dX12_times_9 (by omega) ?_
  refine j_il2 hX dX12_times_10 ?_
  refine j_iadd hX dX12_times_11 (by omega) ?_
  refine j_iald (n := 36) hX hG (by decide) (by omega) dX12_times_12 ?_
  exact j_retI hR dX12_times_13 ⟨hmg.2.2.1 x y hx.1 hx.2 hy.1 hy.2, rfl⟩
set_option maxHeartbeats 4000000 in
theorem ok_X12_isLetter {V : VV} {x : Int}  : Ok NA yX12_isLetter cX12_isLetter 1 (some .boolean) 0 0 [vI x] V (pI (fun x9 V' => x9 = (if 97 ≤ x ∧ x ≤ 122 then 1 else 0) ∧ V' = V)) := by
  refine Ok.intro (by decide +kernel) (Nat.le_of_ble_eq_true rfl) (fun X G hX hG hR hoa hoV => ?_)
  show J X G 0 [vI x] [] V
  refine j_il0 hX dX12_isLetter_0 ?_
  refine j_bipush hX dX12_isLetter_1 (by decide) ⟨by decide, by decide⟩ ?_
  refine j_icmp_lt (tgt := 16) hX dX12_isLetter_3 (by decide) (fun h_3 => ?_) (fun h_3 => ?_)
  · skip
    refine j_iconst hX dX12_isLetter_16 ⟨by decide, by decide⟩ ?_
    exact j_retZ hR dX12_isLetter_17 (by omega) ⟨by first | exact (if_pos (by omega)).symm | exact (if_neg (by omega)).symm, rfl⟩
  · skip
    refine j_il0 hX dX12_isLetter_6 ?_
    refine j_bipush hX dX12_isLetter_7 (by decide) ⟨by decide, by decide⟩ ?_
    refine j_icmp_gt (tgt := 16) hX dX12_isLetter_9 (by decide) (fun h_9 => ?_) (fun h_9 => ?_)
    · skip
      refine j_iconst hX dX12_isLetter_16 ⟨by decide, by decide⟩ ?_
      exact j_retZ hR dX12_isLetter_17 (by omega) ⟨by first | exact (if_pos (by omega)).symm | exact (if_neg (by omega)).symm, rfl⟩
    · skip
      refine j_iconst hX dX12_isLetter_12 ⟨by decide, by decide⟩ ?_
      refine j_goto (tgt := 17) hX dX12_isLetter_13 (by decide) ?_
      exact j_retZ hR dX12_isLetter_17 (by omega) ⟨by first | exact (if_pos (by omega)).symm | exact (if_neg (by omega)).symm, rfl⟩
set_option maxHeartbeats 4000000 in
theorem ok_X12_isDigit {V : VV} {x : Int}  : Ok NA yX12_isDigit cX12_isDigit 1 (some .boolean) 0 0 [vI x] V (pI (fun x9 V' => x9 = (if 48 ≤ x ∧ x ≤ 57 then 1 else 0) ∧ V' = V)) := by
  refine Ok.intro (by decide +kernel) (Nat.le_of_ble_eq_true rfl) (fun X G hX hG hR hoa hoV => ?_)
  show J X G 0 [vI x] [] V
  refine j_il0 hX dX12_isDigit_0 ?_
  refine j_bipush hX dX12_isDigit_1 (by decide) ⟨by decide, by decide⟩ ?_
  refine j_icmp_lt (tgt := 16) hX dX12_isDigit_3 (by decide) (fun h_3 => ?_) (fun h_3 => ?_)
  · skip
    refine j_iconst hX dX12_isDigit_16 ⟨by decide, by decide⟩ ?_
    exact j_retZ hR dX12_isDigit_17 (by omega) ⟨by first | exact (if_pos (by omega)).symm | exact (if_neg (by omega)).symm, rfl⟩
  · skip
    refine j_il0 hX dX12_isDigit_6 ?_
    refine j_bipush hX dX12_isDigit_7 (by decide) ⟨by decide, by decide⟩ ?_
    refine j_icmp_gt (tgt := 16) hX dX12_isDigit_9 (by decide) (fun h_9 => ?_) (fun h_9 => ?_)
    · skip
      refine j_iconst hX dX12_isDigit_16 ⟨by decide, by decide⟩ ?_
      exact j_retZ hR dX12_isDigit_17 (by omega) ⟨by first | exact (if_pos (by omega)).symm | exact (if_neg (by omega)).symm, rfl⟩
    · skip
      refine j_iconst hX dX12_isDigit_12 ⟨by decide, by decide⟩ ?_
      refine j_goto (tgt := 17) hX dX12_isDigit_13 (by decide) ?_
      exact j_retZ hR dX12_isDigit_17 (by omega) ⟨by first | exact (if_pos (by omega)).symm | exact (if_neg (by omega)).symm, rfl⟩
set_option maxHeartbeats 4000000 in
theorem ok_X12_at {V : VV} {k : Int} (hk : 0 ≤ k) (he : V 55 24 ≤ 500) : Ok NA yX12_at cX12_at 2 (some .int) 0 0 [vA 55, vI k] V (pI (fun x9 V' => x9 = (if k < V 55 24 then V 68 k else -1) ∧ V' = V)) := by
  refine Ok.intro (by decide +kernel) (Nat.le_of_ble_eq_true rfl) (fun X G hX hG hR hoa hoV => ?_)
  show J X G 0 [vA 55, vI k] [] V
  refine j_il1 hX dX12_at_0 ?_
  refine j_al0 hX dX12_at_1 rfl ?_
  refine j_getI hX hG fl_X12_176 (Or.inl rfl) (by decide) dX12_at_2 ?_
  refine j_icmp_ge (tgt := 17) hX dX12_at_5 (by decide) (fun h_5 => ?_) (fun h_5 => ?_)
  · skip
    refine j_iconst hX dX12_at_17 ⟨by decide, by decide⟩ ?_
    exact j_retI hR dX12_at_18 ⟨by first | exact (if_pos (by omega)).symm | exact (if_neg (by omega)).symm, rfl⟩
  · skip
    refine j_al0 hX dX12_at_8 rfl ?_
    refine j_getR (q := 68) hX hG fl_X12_47 rfl rfl (by decide) dX12_at_9 ?_
    refine j_il1 hX dX12_at_12 ?_
    refine j_iald (n := 500) hX hG (by decide) (by omega) dX12_at_13 ?_
    refine j_goto (tgt := 18) hX dX12_at_14 (by decide) ?_
    exact j_retI hR dX12_at_18 ⟨by first | exact (if_pos (by omega)).symm | exact (if_neg (by omega)).symm, rfl⟩
set_option maxHeartbeats 4000000 in
theorem ok_X12_isState {V : VV} {x : Int} (hg : 2 ≤ V 55 1 ∧ V 55 1 ≤ 6) : Ok NA yX12_isState cX12_isState 2 (some .boolean) 1 22 [vA 55, vI x] V (pI (fun x9 V' => x9 = (if 0 ≤ x ∧ x < V 55 1 then 1 else 0) ∧ V' = V)) := by
  refine Ok.intro (by decide +kernel) (Nat.le_of_ble_eq_true rfl) (fun X G hX hG hR hoa hoV => ?_)
  show J X G 0 [vA 55, vI x] [] V
  refine j_il1 hX dX12_isState_0 ?_
  refine j_iconst hX dX12_isState_1 ⟨by decide, by decide⟩ ?_
  refine j_al0 hX dX12_isState_2 rfl ?_
  refine j_getI hX hG fl_X12_136 (Or.inl rfl) (by decide) dX12_isState_3 ?_
  refine j_iconst hX dX12_isState_6 ⟨by decide, by decide⟩ ?_
  refine j_isub hX dX12_isState_7 (by omega) ?_
  refine j_pSI3 hX hG lk_X12_172 (ok_X12_isIn ) (Nat.le_of_ble_eq_true rfl) (Nat.le_of_ble_eq_true rfl) (Nat.le_of_ble_eq_true rfl) rfl dX12_isState_8 ?_
  exact j_retZ hR dX12_isState_11 (by omega) ⟨by split <;> split <;> first | rfl | omega, rfl⟩
set_option maxHeartbeats 4000000 in
theorem ok_X12_truncate {V : VV} {a : Int}  : Ok NA yX12_truncate cX12_truncate 2 (some .int) 1 22 [vA 55, vI a] V (pI (fun x9 V' => ((0 ≤ a ∧ a ≤ V 55 23) ∧ x9 = a ∧ V' = up (up V 55 0 0) 55 23 a) ∨ (¬ (0 ≤ a ∧ a ≤ V 55 23) ∧ x9 = 0 ∧ V' = up (up V 55 0 0) 55 0 1))) := by
  refine Ok.intro (by decide +kernel) (Nat.le_of_ble_eq_true rfl) (fun X G hX hG hR hoa hoV => ?_)
  show J X G 0 [vA 55, vI a] [] V
  refine j_al0 hX dX12_truncate_0 rfl ?_
  refine j_iconst hX dX12_truncate_1 ⟨by decide, by decide⟩ ?_
  refine j_putI hX hG fp_X12_126 rfl (by decide) dX12_truncate_2 ?_
  obtain ⟨U, hU⟩ : ∃ U, U = up V 55 0 0 := ⟨_, rfl⟩
  rw [← hU]
  have u0 : U 55 0 = 0 := by rw [hU]; exact up_s ..
  have uF : ∀ b, b ≠ 0 → U 55 b = V 55 b := fun b hb => by rw [hU]; exact up_n _ (fun q => hb q.2)
  have uC : ∀ a b, a ≠ 55 → U a b = V a b := fun a b ha => by rw [hU]; exact up_n _ (fun q => ha q.1)
  have u23 := uF 23 (by decide)
  refine j_al0 hX dX12_truncate_5 rfl ?_
  refine j_il1 hX dX12_truncate_6 ?_
  refine j_iconst hX dX12_truncate_7 ⟨by decide, by decide⟩ ?_
  refine j_al0 hX dX12_truncate_8 rfl ?_
  refine j_getI hX hG fl_X12_165 (Or.inl rfl) (by decide) dX12_truncate_9 ?_
  refine j_pSI3 hX hG lk_X12_172 (ok_X12_isIn ) (Nat.le_of_ble_eq_true rfl) (Nat.le_of_ble_eq_true rfl) (Nat.le_of_ble_eq_true rfl) rfl dX12_truncate_12 ?_
  refine j_iconst hX dX12_truncate_15 ⟨by decide, by decide⟩ ?_
  refine j_cVI2 (ci := 12) hX hG lk_X12_168 (ok_X12_may u0 (by decide)) (by decide) rfl (Nat.le_of_ble_eq_true rfl) (Nat.le_of_ble_eq_true rfl) (Nat.le_of_ble_eq_true rfl) rfl dX12_truncate_16 (fun x_16 V_16 h_16 => ?_)
  skip
  refine j_if_ne (tgt := 24) hX dX12_truncate_19 (by decide) (fun h_19 => ?_) (fun h_19 => ?_)
  · skip
    obtain ⟨c_16, -, w_16⟩ := h_16.elim id (fun q => absurd q.2.1 (by omega))
    have w2_16 := w_16.symm
    subst w2_16
    refine j_al0 hX dX12_truncate_24 rfl ?_
    refine j_il1 hX dX12_truncate_25 ?_
    refine j_putI hX hG fp_X12_165 rfl (by decide) dX12_truncate_26 ?_
    refine j_il1 hX dX12_truncate_29 ?_
    exact j_retI hR dX12_truncate_30 (Or.inl ⟨by by_cases z : 0 ≤ a ∧ a ≤ U 55 23; (rw [← u23]; exact z); (rw [if_neg z] at c_16; exact absurd rfl c_16), rfl, by rw [hU]⟩)
  · skip
    obtain ⟨c_16, -, w_16⟩ := h_16.elim (fun q => absurd q.2.1 (by omega)) id
    refine j_iconst hX dX12_truncate_22 ⟨by decide, by decide⟩ ?_
    exact j_retI hR dX12_truncate_23 (Or.inr ⟨fun z => by rw [← u23] at z; rw [if_pos z] at c_16; exact absurd c_16 (by decide), rfl, by rw [w_16, hU]⟩)
set_option maxHeartbeats 4000000 in
theorem ok_X12_append {V : VV} {a b c d e : Int} (ht : 0 ≤ V 55 23 ∧ V 55 23 ≤ 500) : Ok NA yX12_append cX12_append 8 (some .int) 1 22 [vA 55, vI a, vI b, vI c, vI d, vI e] V (pI (fun x9 V' => (V 55 23 ≤ 480 ∧ x9 = V 55 23 + 20 ∧ V' 55 0 = 0 ∧ V' 55 23 = V 55 23 + 20 ∧ (∀ z, z ≠ 0 → z ≠ 23 → V' 55 z = V 55 z) ∧ (∀ j, 0 ≤ j → j < 20 → V' 68 (V 55 23 + j) = byteF (a5 a b c d e (j / 4)) (j % 4)) ∧ (∀ z, z < V 55 23 → V' 68 z = V 68 z) ∧ fr [55, 68] V V') ∨ (480 < V 55 23 ∧ x9 = 0 ∧ V' = up (up V 55 0 0) 55 0 1))) := by
  refine Ok.intro (by decide +kernel) (Nat.le_of_ble_eq_true rfl) (fun X G hX hG hR hoa hoV => ?_)
  show J X G 0 [vA 55, vI a, vI b, vI c, vI d, vI e, vU, vU] [] V
  refine j_al0 hX dX12_append_0 rfl ?_
  refine j_iconst hX dX12_append_1 ⟨by decide, by decide⟩ ?_
  refine j_putI hX hG fp_X12_126 rfl (by decide) dX12_append_2 ?_
  obtain ⟨U, hU⟩ : ∃ U, U = up V 55 0 0 := ⟨_, rfl⟩
  rw [← hU]
  have u0 : U 55 0 = 0 := by rw [hU]; exact up_s ..
  have uF : ∀ b, b ≠ 0 → U 55 b = V 55 b := fun b hb => by rw [hU]; exact up_n _ (fun q => hb q.2)
  have uC : ∀ a b, a ≠ 55 → U a b = V a b := fun a b ha => by rw [hU]; exact up_n _ (fun q => ha q.1)
  have u23 := uF 23 (by decide)
  have jn_24 : ∀ (s : Int), (s = if V 55 23 ≤ 480 then 1 else 0) → J X G 24 [vA 55, vI a, vI b, vI c, vI d, vI e, vU, vU] [vI s, vA 55] U := by
    intro s hs9
    refine j_iconst hX dX12_append_24 ⟨by decide, by decide⟩ ?_
    refine j_cVI2 (ci := 12) hX hG lk_X12_168 (ok_X12_may u0 (by decide)) (by decide) rfl (Nat.le_of_ble_eq_true rfl) (Nat.le_of_ble_eq_true rfl) (Nat.le_of_ble_eq_true rfl) rfl dX12_append_25 (fun x_25 V_25 h_25 => ?_)
    skip
    refine j_if_ne (tgt := 33) hX dX12_append_28 (by decide) (fun h_28 => ?_) (fun h_28 => ?_)
    · skip
      obtain ⟨c_25, -, w_25⟩ := h_25.elim id (fun q => absurd q.2.1 (by omega))
      have w2_25 := w_25.symm
      subst w2_25
      have c9 : V 55 23 ≤ 480 := Classical.byContradiction fun z => c_25 (by rw [hs9, if_neg z])
      refine j_iconst hX dX12_append_33 ⟨by decide, by decide⟩ ?_
      refine j_is6 hX dX12_append_34 rfl ?_
      have lp_36 : ∀ (f9 : Nat) (k : Int) (W : VV), (0 ≤ k ∧ k ≤ 20) → (fr [68] U W) → (∀ j, 0 ≤ j → j < k → W 68 (V 55 23 + j) = byteF (a5 a b c d e (j / 4)) (j % 4)) → (∀ z, z < V 55 23 → W 68 z = V 68 z) → ((20 - k).toNat) < f9 → J X G 36 [vA 55, vI a, vI b, vI c, vI d, vI e, vI k, vU] [] W := by
        intro f9
        induction f9 with
        | zero => intro k W _ _ _ _ hm; exact absurd hm (Nat.not_lt_zero _)
        | succ f9 ih_36 =>
          intro k W hk hs hTT hLL hm
          refine j_il6 hX dX12_append_36 ?_
          refine j_bipush hX dX12_append_38 (by decide) ⟨by decide, by decide⟩ ?_
          refine j_icmp_ge (tgt := 126) hX dX12_append_40 (by decide) (fun h_40 => ?_) (fun h_40 => ?_)
          · skip
            have w23 : W 55 23 = V 55 23 := (hs 55 23 (by decide)).trans u23
            refine j_al0 hX dX12_append_126 rfl ?_
            refine j_dup hX dX12_append_127 rfl ?_
            refine j_getI hX hG fl_X12_165 (Or.inl rfl) (by decide) dX12_append_128 ?_
            refine j_bipush hX dX12_append_131 (by decide) ⟨by decide, by decide⟩ ?_
            refine j_iadd hX dX12_append_133 (by omega) ?_
            refine j_putI hX hG fp_X12_165 rfl (by decide) dX12_append_134 ?_
            refine j_al0 hX dX12_append_137 rfl ?_
            refine j_getI hX hG fl_X12_165 (Or.inl rfl) (by decide) dX12_append_138 ?_
            exact j_retI hR dX12_append_141 (Or.inl ⟨c9, by rw [up_s, w23], by rw [up_n _ (by decide), hs 55 0 (by decide), u0], by rw [up_s, w23], fun z z0 z1 => by rw [up_n _ (fun q => z1 q.2), hs 55 z (by decide), uF z z0], fun j j0 j1 => by rw [up_n _ (by omega)]; exact hTT j j0 (by omega), fun z hz => by rw [up_n _ (by omega)]; exact hLL z hz, fr_u (fr_t (by rw [hU]; exact fr_u fr_0 (by decide)) (fr_w hs (by decide))) (by decide)⟩)
          · skip
            have w23 : W 55 23 = V 55 23 := (hs 55 23 (by decide)).trans u23
            have jn_89 : ∀ (s : Int), (s = (a5 a b c d e (k / 4))) → J X G 89 [vA 55, vI a, vI b, vI c, vI d, vI e, vI k, vU] [vI s] W := by
              intro s hs8
              refine j_is7 hX dX12_append_89 rfl ?_
              refine j_al0 hX dX12_append_91 rfl ?_
              refine j_getR (q := 68) hX hG fl_X12_47 rfl rfl (by decide) dX12_append_92 ?_
              refine j_al0 hX dX12_append_95 rfl ?_
              refine j_getI hX hG fl_X12_165 (Or.inl rfl) (by decide) dX12_append_96 ?_
              refine j_il6 hX dX12_append_99 ?_
              refine j_iadd hX dX12_append_101 (by omega) ?_
              refine j_il7 hX dX12_append_102 ?_
              refine j_bipush hX dX12_append_104 (by decide) ⟨by decide, by decide⟩ ?_
              refine j_bipush hX dX12_append_106 (by decide) ⟨by decide, by decide⟩ ?_
              refine j_il6 hX dX12_append_108 ?_
              refine j_iconst hX dX12_append_110 ⟨by decide, by decide⟩ ?_
              refine j_irem hX dX12_append_111 (by decide) (by omega) ?_
              refine j_imul hX dX12_append_112 (by omega) ?_
              refine j_isub hX dX12_append_113 (by omega) ?_
              refine j_ishr hX dX12_append_114 (by omega) ?_
              refine j_sipush hX dX12_append_115 (by decide) ⟨by decide, by decide⟩ ?_
              refine j_iand hX dX12_append_118 ?_
              refine j_iast (n := 500) hX hG (by decide) (by omega) dX12_append_119 ?_
              refine j_inc6 hX dX12_append_120 rfl (by omega) ?_
              refine j_goto (tgt := 36) hX dX12_append_123 (by decide) ?_
              refine j_fg7 ?_
              exact ih_36 _ _ (by omega) (fr_u hs (by decide)) (lt_stepI (fun j j0 j1 => by rw [w23, up_n _ (by omega)]; exact hTT j j0 j1) (by rw [w23, up_s, hs8]; exact by_eq hk.1)) (fun z hz => by rw [w23, up_n _ (by omega)]; exact hLL z hz) (by omega)
            refine j_il6 hX dX12_append_43 ?_
            refine j_iconst hX dX12_append_45 ⟨by decide, by decide⟩ ?_
            refine j_icmp_ge (tgt := 53) hX dX12_append_46 (by decide) (fun h_46 => ?_) (fun h_46 => ?_)
            · skip
              refine j_il6 hX dX12_append_53 ?_
              refine j_bipush hX dX12_append_55 (by decide) ⟨by decide, by decide⟩ ?_
              refine j_icmp_ge (tgt := 64) hX dX12_append_57 (by decide) (fun h_57 => ?_) (fun h_57 => ?_)
              · skip
                refine j_il6 hX dX12_append_64 ?_
                refine j_bipush hX dX12_append_66 (by decide) ⟨by decide, by decide⟩ ?_
                refine j_icmp_ge (tgt := 75) hX dX12_append_68 (by decide) (fun h_68 => ?_) (fun h_68 => ?_)
                · skip
                  refine j_il6 hX dX12_append_75 ?_
                  refine j_bipush hX dX12_append_77 (by decide) ⟨by decide, by decide⟩ ?_
                  refine j_icmp_ge (tgt := 87) hX dX12_append_79 (by decide) (fun h_79 => ?_) (fun h_79 => ?_)
                  · skip
                    refine j_il5 hX dX12_append_87 ?_
                    exact jn_89 _ (by unfold a5; first | exact (if_pos (by omega)).symm | (rw [if_neg (by omega)]; exact (if_pos (by omega)).symm) | (rw [if_neg (by omega), if_neg (by omega)]; exact (if_pos (by omega)).symm) | (rw [if_neg (by omega), if_neg (by omega), if_neg (by omega)]; exact (if_pos (by omega)).symm) | (rw [if_neg (by omega), if_neg (by omega), if_neg (by omega), if_neg (by omega)]))
                  · skip
                    refine j_il4 hX dX12_append_82 ?_
                    refine j_goto (tgt := 89) hX dX12_append_84 (by decide) ?_
                    exact jn_89 _ (by unfold a5; first | exact (if_pos (by omega)).symm | (rw [if_neg (by omega)]; exact (if_pos (by omega)).symm) | (rw [if_neg (by omega), if_neg (by omega)]; exact (if_pos (by omega)).symm) | (rw [if_neg (by omega), if_neg (by omega), if_neg (by omega)]; exact (if_pos (by omega)).symm) | (rw [if_neg (by omega), if_neg (by omega), if_neg (by omega), if_neg (by omega)]))
                · skip
                  refine j_il3 hX dX12_append_71 ?_
                  refine j_goto (tgt := 89) hX dX12_append_72 (by decide) ?_
                  exact jn_89 _ (by unfold a5; first | exact (if_pos (by omega)).symm | (rw [if_neg (by omega)]; exact (if_pos (by omega)).symm) | (rw [if_neg (by omega), if_neg (by omega)]; exact (if_pos (by omega)).symm) | (rw [if_neg (by omega), if_neg (by omega), if_neg (by omega)]; exact (if_pos (by omega)).symm) | (rw [if_neg (by omega), if_neg (by omega), if_neg (by omega), if_neg (by omega)]))
              · skip
                refine j_il2 hX dX12_append_60 ?_
                refine j_goto (tgt := 89) hX dX12_append_61 (by decide) ?_
                exact jn_89 _ (by unfold a5; first | exact (if_pos (by omega)).symm | (rw [if_neg (by omega)]; exact (if_pos (by omega)).symm) | (rw [if_neg (by omega), if_neg (by omega)]; exact (if_pos (by omega)).symm) | (rw [if_neg (by omega), if_neg (by omega), if_neg (by omega)]; exact (if_pos (by omega)).symm) | (rw [if_neg (by omega), if_neg (by omega), if_neg (by omega), if_neg (by omega)]))
            · skip
              refine j_il1 hX dX12_append_49 ?_
              refine j_goto (tgt := 89) hX dX12_append_50 (by decide) ?_
              exact jn_89 _ (by unfold a5; first | exact (if_pos (by omega)).symm | (rw [if_neg (by omega)]; exact (if_pos (by omega)).symm) | (rw [if_neg (by omega), if_neg (by omega)]; exact (if_pos (by omega)).symm) | (rw [if_neg (by omega), if_neg (by omega), if_neg (by omega)]; exact (if_pos (by omega)).symm) | (rw [if_neg (by omega), if_neg (by omega), if_neg (by omega), if_neg (by omega)]))
      exact lp_36 _ _ _ (by omega) fr_0 (fun j j0 j1 => by omega) (fun z hz => uC 68 z (by decide)) (Nat.lt_succ_self _)
    · skip
      obtain ⟨c_25, -, w_25⟩ := h_25.elim (fun q => absurd q.2.1 (by omega)) id
      have c9 : ¬ V 55 23 ≤ 480 := fun z => by rw [hs9, if_pos z] at c_25; cases c_25
      refine j_iconst hX dX12_append_31 ⟨by decide, by decide⟩ ?_
      exact j_retI hR dX12_append_32 (Or.inr ⟨by omega, rfl, by rw [w_25, hU]⟩)
  refine j_al0 hX dX12_append_5 rfl ?_
  refine j_al0 hX dX12_append_6 rfl ?_
  refine j_getI hX hG fl_X12_165 (Or.inl rfl) (by decide) dX12_append_7 ?_
  refine j_bipush hX dX12_append_10 (by decide) ⟨by decide, by decide⟩ ?_
  refine j_iadd hX dX12_append_12 (by omega) ?_
  refine j_sipush hX dX12_append_13 (by decide) ⟨by decide, by decide⟩ ?_
  refine j_icmp_gt (tgt := 23) hX dX12_append_16 (by decide) (fun h_16 => ?_) (fun h_16 => ?_)
  · skip
    refine j_iconst hX dX12_append_23 ⟨by decide, by decide⟩ ?_
    exact jn_24 _ (by first | exact (if_pos (by omega)).symm | exact (if_neg (by omega)).symm)
  · skip
    refine j_iconst hX dX12_append_19 ⟨by decide, by decide⟩ ?_
    refine j_goto (tgt := 24) hX dX12_append_20 (by decide) ?_
    exact jn_24 _ (by first | exact (if_pos (by omega)).symm | exact (if_neg (by omega)).symm)
