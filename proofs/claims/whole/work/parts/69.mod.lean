set_option maxHeartbeats 4000000 in
theorem ok_X12_isWay {V : VV} {e k d : Int} (hmo : MO V) (he : 0 ≤ e ∧ e < V 55 3) (hk : 0 ≤ k ∧ k < 16) : Ok NA yX12_isWay cX12_isWay 5 (some .boolean) 0 0 [vA 55, vI e, vI k, vI d] V (pI (fun x9 V' => x9 = (if V 58 e = (if d = 0 then V 59 k else if d = 1 then (if V 55 2 = 2 then e / V 55 1 else e / V 55 1 % V 55 1) else 0) then 1 else 0) ∧ V' = V)) := by
  refine Ok.intro (by decide +kernel) (Nat.le_of_ble_eq_true rfl) (fun X G hX hG hR hoa hoV => ?_)
  show J X G 0 [vA 55, vI e, vI k, vI d, vU] [] V
  have hb9 := hmo.b
  have q1 : 0 ≤ e / V 55 1 := Int.ediv_nonneg he.1 (by omega)
  have jn_28 : ∀ (c : Int), (c = if V 55 2 = 2 then e / V 55 1 else e / V 55 1 % V 55 1) → J X G 28 [vA 55, vI e, vI k, vI d, vU] [vI c] V := by
    intro c hc
    refine j_is4 hX dX12_isWay_28 rfl ?_
    have jn_60 : ∀ (z : Int), (z = (if d = 0 then V 59 k else if d = 1 then (if V 55 2 = 2 then e / V 55 1 else e / V 55 1 % V 55 1) else 0)) → J X G 60 [vA 55, vI e, vI k, vI d, vU] [vI z, vI (V 58 e)] V := by
      intro z hz
      refine j_icmp_ne (tgt := 67) hX dX12_isWay_60 (by decide) (fun h_60 => ?_) (fun h_60 => ?_)
      · skip
        refine j_iconst hX dX12_isWay_67 ⟨by decide, by decide⟩ ?_
        exact j_retZ hR dX12_isWay_68 (by omega) ⟨by rw [← hz]; first | exact (if_pos h_60).symm | exact (if_neg h_60).symm, rfl⟩
      · skip
        refine j_iconst hX dX12_isWay_63 ⟨by decide, by decide⟩ ?_
        refine j_goto (tgt := 68) hX dX12_isWay_64 (by decide) ?_
        exact j_retZ hR dX12_isWay_68 (by omega) ⟨by rw [← hz]; first | exact (if_pos h_60).symm | exact (if_neg h_60).symm, rfl⟩
    refine j_al0 hX dX12_isWay_30 rfl ?_
    refine j_getR (q := 58) hX hG fl_X12_16 rfl rfl (by decide) dX12_isWay_31 ?_
    refine j_il1 hX dX12_isWay_34 ?_
    refine j_iald (n := 216) hX hG (by decide) (by omega) dX12_isWay_35 ?_
    refine j_il3 hX dX12_isWay_36 ?_
    refine j_if_ne (tgt := 49) hX dX12_isWay_37 (by decide) (fun h_37 => ?_) (fun h_37 => ?_)
    · skip
      refine j_il3 hX dX12_isWay_49 ?_
      refine j_iconst hX dX12_isWay_50 ⟨by decide, by decide⟩ ?_
      refine j_icmp_ne (tgt := 59) hX dX12_isWay_51 (by decide) (fun h_51 => ?_) (fun h_51 => ?_)
      · skip
        refine j_iconst hX dX12_isWay_59 ⟨by decide, by decide⟩ ?_
        refine j_fg4 ?_
        exact jn_60 _ (by first | exact (if_pos (by omega)).symm | (rw [if_neg (by omega), if_pos (by omega)]; exact hc) | (rw [if_neg (by omega), if_neg (by omega)]))
      · skip
        refine j_il4 hX dX12_isWay_54 ?_
        refine j_goto (tgt := 60) hX dX12_isWay_56 (by decide) ?_
        refine j_fg4 ?_
        exact jn_60 _ (by first | exact (if_pos (by omega)).symm | (rw [if_neg (by omega), if_pos (by omega)]; exact hc) | (rw [if_neg (by omega), if_neg (by omega)]))
    · skip
      refine j_al0 hX dX12_isWay_40 rfl ?_
      refine j_getR (q := 59) hX hG fl_X12_19 rfl rfl (by decide) dX12_isWay_41 ?_
      refine j_il2 hX dX12_isWay_44 ?_
      refine j_iald (n := 16) hX hG (by decide) (by omega) dX12_isWay_45 ?_
      refine j_goto (tgt := 60) hX dX12_isWay_46 (by decide) ?_
      refine j_fg4 ?_
      exact jn_60 _ (by first | exact (if_pos (by omega)).symm | (rw [if_neg (by omega), if_pos (by omega)]; exact hc) | (rw [if_neg (by omega), if_neg (by omega)]))
  refine j_al0 hX dX12_isWay_0 rfl ?_
  refine j_getI hX hG fl_X12_139 (Or.inl rfl) (by decide) dX12_isWay_1 ?_
  refine j_iconst hX dX12_isWay_4 ⟨by decide, by decide⟩ ?_
  refine j_icmp_ne (tgt := 17) hX dX12_isWay_5 (by decide) (fun h_5 => ?_) (fun h_5 => ?_)
  · skip
    refine j_il1 hX dX12_isWay_17 ?_
    refine j_al0 hX dX12_isWay_18 rfl ?_
    refine j_getI hX hG fl_X12_136 (Or.inl rfl) (by decide) dX12_isWay_19 ?_
    refine j_idiv hX dX12_isWay_22 (by omega) he.1 ?_
    refine j_al0 hX dX12_isWay_23 rfl ?_
    refine j_getI hX hG fl_X12_136 (Or.inl rfl) (by decide) dX12_isWay_24 ?_
    refine j_irem hX dX12_isWay_27 (by omega) q1 ?_
    exact jn_28 _ (by first | exact (if_pos h_5).symm | exact (if_neg h_5).symm)
  · skip
    refine j_il1 hX dX12_isWay_8 ?_
    refine j_al0 hX dX12_isWay_9 rfl ?_
    refine j_getI hX hG fl_X12_136 (Or.inl rfl) (by decide) dX12_isWay_10 ?_
    refine j_idiv hX dX12_isWay_13 (by omega) he.1 ?_
    refine j_goto (tgt := 28) hX dX12_isWay_14 (by decide) ?_
    exact jn_28 _ (by first | exact (if_pos h_5).symm | exact (if_neg h_5).symm)
set_option maxHeartbeats 4000000 in
theorem ok_X12_canBe {V : VV} {p k : Int} (hmo : MO V) (hp : 0 ≤ p) (hk : 0 ≤ k ∧ k < 16) : Ok NA yX12_canBe cX12_canBe 3 (some .boolean) 0 0 [vA 55, vI p, vI k] V (pI (fun x9 V' => x9 = (if V 81 k = -1 ∨ V 81 k = p % V 55 1 then 1 else 0) ∧ V' = V)) := by
  refine Ok.intro (by decide +kernel) (Nat.le_of_ble_eq_true rfl) (fun X G hX hG hR hoa hoV => ?_)
  show J X G 0 [vA 55, vI p, vI k] [] V
  have hb9 := hmo.b
  refine j_al0 hX dX12_canBe_0 rfl ?_
  refine j_getR (q := 81) hX hG fl_X12_92 rfl rfl (by decide) dX12_canBe_1 ?_
  refine j_il2 hX dX12_canBe_4 ?_
  refine j_iald (n := 16) hX hG (by decide) (by omega) dX12_canBe_5 ?_
  refine j_iconst hX dX12_canBe_6 ⟨by decide, by decide⟩ ?_
  refine j_icmp_eq (tgt := 25) hX dX12_canBe_7 (by decide) (fun h_7 => ?_) (fun h_7 => ?_)
  · skip
    refine j_iconst hX dX12_canBe_25 ⟨by decide, by decide⟩ ?_
    refine j_goto (tgt := 30) hX dX12_canBe_26 (by decide) ?_
    exact j_retZ hR dX12_canBe_30 (by omega) ⟨by first | exact (if_pos (Or.inl h_7)).symm | exact (if_pos (Or.inr (Classical.byContradiction h_22))).symm | exact (if_pos (Or.inr h_22)).symm | exact (if_neg (fun z => z.elim h_7 h_22)).symm, rfl⟩
  · skip
    refine j_al0 hX dX12_canBe_10 rfl ?_
    refine j_getR (q := 81) hX hG fl_X12_92 rfl rfl (by decide) dX12_canBe_11 ?_
    refine j_il2 hX dX12_canBe_14 ?_
    refine j_iald (n := 16) hX hG (by decide) (by omega) dX12_canBe_15 ?_
    refine j_il1 hX dX12_canBe_16 ?_
    refine j_al0 hX dX12_canBe_17 rfl ?_
    refine j_getI hX hG fl_X12_136 (Or.inl rfl) (by decide) dX12_canBe_18 ?_
    refine j_irem hX dX12_canBe_21 (by omega) hp ?_
    refine j_icmp_ne (tgt := 29) hX dX12_canBe_22 (by decide) (fun h_22 => ?_) (fun h_22 => ?_)
    · skip
      refine j_iconst hX dX12_canBe_29 ⟨by decide, by decide⟩ ?_
      exact j_retZ hR dX12_canBe_30 (by omega) ⟨by first | exact (if_pos (Or.inl h_7)).symm | exact (if_pos (Or.inr (Classical.byContradiction h_22))).symm | exact (if_pos (Or.inr h_22)).symm | exact (if_neg (fun z => z.elim h_7 h_22)).symm, rfl⟩
    · skip
      refine j_iconst hX dX12_canBe_25 ⟨by decide, by decide⟩ ?_
      refine j_goto (tgt := 30) hX dX12_canBe_26 (by decide) ?_
      exact j_retZ hR dX12_canBe_30 (by omega) ⟨by first | exact (if_pos (Or.inl h_7)).symm | exact (if_pos (Or.inr (Classical.byContradiction h_22))).symm | exact (if_pos (Or.inr h_22)).symm | exact (if_neg (fun z => z.elim h_7 h_22)).symm, rfl⟩
