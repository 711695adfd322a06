set_option maxHeartbeats 4000000 in
theorem ok_X12_common {V : VV} {x y : Int} (ha : -9000000000000000000 ≤ x ∧ x ≤ 9000000000000000000) (hb : -9000000000000000000 ≤ y ∧ y ≤ 9000000000000000000) : Ok NA yX12_common cX12_common 10 (some .long) 0 0 [vL x, vL y] V (pL (fun x9 V' => x9 = (Int.gcd x y : Int) ∧ V' = V)) := by
  refine Ok.intro (by decide +kernel) (Nat.le_of_ble_eq_true rfl) (fun X G hX hG hR hoa hoV => ?_)
  show J X G 0 [vL x, vU, vL y, vU, vU, vU, vU, vU, vU, vU] [] V
  have jn_12 : ∀ (z : Int), (z = (x.natAbs : Int)) → J X G 12 [vL x, vU, vL y, vU, vU, vU, vU, vU, vU, vU] [vL z] V := by
    intro z hz
    refine j_ls4 hX dX12_common_12 rfl ?_
    have jn_26 : ∀ (w : Int), (w = (y.natAbs : Int)) → J X G 26 [vL x, vU, vL y, vU, vL z, vU, vU, vU, vU, vU] [vL w] V := by
      intro w hw
      refine j_ls6 hX dX12_common_26 rfl ?_
      have lp_28 : ∀ (f9 : Nat) (a b : Int), (0 ≤ a ∧ 0 ≤ b) → (Int.gcd a b = Int.gcd x y) → (b.toNat) < f9 → J X G 28 [vL x, vU, vL y, vU, vL a, vU, vL b, vU, vU, vU] [] V := by
        intro f9
        induction f9 with
        | zero => intro a b _ _ hm; exact absurd hm (Nat.not_lt_zero _)
        | succ f9 ih_28 =>
          intro a b hx hg hm
          refine j_ll6 hX dX12_common_28 ?_
          refine j_lconst (x := 0) hX dX12_common_30 rfl ⟨by decide, by decide⟩ ?_
          refine j_lcmp_eq (tgt := 53) hX dX12_common_31 dX12_common_32 (by decide) (fun h_32 => ?_) (fun h_32 => ?_)
          · skip
            refine j_ll4 hX dX12_common_53 ?_
            exact j_retL hR dX12_common_55 ⟨by have e : b = 0 := (by omega); rw [← hg, e, Int.gcd_zero_right]; omega, rfl⟩
          · skip
            have hm9 := md_b a (n := b) (by have := hx.2; omega)
            refine j_ll4 hX dX12_common_35 ?_
            refine j_ll6 hX dX12_common_37 ?_
            refine j_lrem hX dX12_common_39 (by have := hx.2; omega) hx.1 ?_
            refine j_ls8 hX dX12_common_40 rfl ?_
            refine j_ll6 hX dX12_common_42 ?_
            refine j_ls4 hX dX12_common_44 rfl ?_
            refine j_ll8 hX dX12_common_46 ?_
            refine j_ls6 hX dX12_common_48 rfl ?_
            refine j_goto (tgt := 28) hX dX12_common_50 (by decide) ?_
            refine j_fg8 ?_
            exact ih_28 _ _ ⟨hx.2, hm9.1⟩ (by rw [gcd_st hx.1 hx.2]; exact hg) (by omega)
      exact lp_28 _ _ _ (by omega) (by rw [hz, hw, Int.gcd_eq_natAbs_gcd_natAbs, Int.natAbs_natCast, Int.natAbs_natCast]; rfl) (Nat.lt_succ_self _)
    refine j_ll2 hX dX12_common_14 ?_
    refine j_lconst (x := 0) hX dX12_common_15 rfl ⟨by decide, by decide⟩ ?_
    refine j_lcmp_ge (tgt := 25) hX dX12_common_16 dX12_common_17 (by decide) (fun h_17 => ?_) (fun h_17 => ?_)
    · skip
      refine j_ll2 hX dX12_common_25 ?_
      exact jn_26 _ (by omega)
    · skip
      refine j_ll2 hX dX12_common_20 ?_
      refine j_lneg hX dX12_common_21 (by omega) ?_
      refine j_goto (tgt := 26) hX dX12_common_22 (by decide) ?_
      exact jn_26 _ (by omega)
  refine j_ll0 hX dX12_common_0 ?_
  refine j_lconst (x := 0) hX dX12_common_1 rfl ⟨by decide, by decide⟩ ?_
  refine j_lcmp_ge (tgt := 11) hX dX12_common_2 dX12_common_3 (by decide) (fun h_3 => ?_) (fun h_3 => ?_)
  · skip
    refine j_ll0 hX dX12_common_11 ?_
    exact jn_12 _ (by omega)
  · skip
    refine j_ll0 hX dX12_common_6 ?_
    refine j_lneg hX dX12_common_7 (by omega) ?_
    refine j_goto (tgt := 12) hX dX12_common_8 (by decide) ?_
    exact jn_12 _ (by omega)
