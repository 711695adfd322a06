set_option maxHeartbeats 4000000 in
theorem ok_X8_isHomomorphic {V : VV} {q : Nat} (ho9 : RO V 15) (ht : TR V 15) (hg : GP V 13 q) (h3 : V 15 3 = gO q) : Ok NC yX8_isHomomorphic cX8_isHomomorphic 4 (some .boolean) 4 94 [vA 15, vA 13] V (pI (fun x9 V' => x9 = (if homB (V 16) q (V 15 3) (V 15 4) (V 15 5) = true then 1 else 0) ∧ V' = V)) := by
  refine Ok.intro (by decide +kernel) (Nat.le_of_ble_eq_true rfl) (fun X G hX hG hR hoa hoV => ?_)
  show J X G 0 [vA 15, vA 13, vU, vU] [] V
  have hb9 := ho9.b
  have hq9 := hg.1
  have hq6 := gO_le hq9
  refine j_iconst hX dX8_isHomomorphic_0 ⟨by decide, by decide⟩ ?_
  refine j_is2 hX dX8_isHomomorphic_1 rfl ?_
  have lp_2 : ∀ (f9 : Nat) (p : Int), (0 ≤ p ∧ p ≤ V 15 4) → (∀ j : Int, 0 ≤ j → j < p → ∀ f, 1 ≤ f → f < V 15 3 → resB (V 16) q (V 15 3) (V 15 5) (V 15 4 - 1 - j).toNat f = true) → ((V 15 4 - p).toNat) < f9 → J X G 2 [vA 15, vA 13, vI p, vU] [] V := by
    intro f9
    induction f9 with
    | zero => intro p _ _ hm; exact absurd hm (Nat.not_lt_zero _)
    | succ f9 ih_2 =>
      intro p hp hi hm
      refine j_il2 hX dX8_isHomomorphic_2 ?_
      refine j_al0 hX dX8_isHomomorphic_3 rfl ?_
      refine j_getI hX hG fl_X8_26 (Or.inl rfl) (by decide) dX8_isHomomorphic_4 ?_
      refine j_icmp_ge (tgt := 44) hX dX8_isHomomorphic_7 (by decide) (fun h_7 => ?_) (fun h_7 => ?_)
      · skip
        refine j_iconst hX dX8_isHomomorphic_44 ⟨by decide, by decide⟩ ?_
        exact j_retZ hR dX8_isHomomorphic_45 (by omega) ⟨by rw [if_pos]; exact homB_t.mpr (fun x h0 h1 => hi x h0 (by omega)), rfl⟩
      · skip
        refine j_iconst hX dX8_isHomomorphic_10 ⟨by decide, by decide⟩ ?_
        refine j_is3 hX dX8_isHomomorphic_11 rfl ?_
        have lp_12 : ∀ (f9 : Nat) (f : Int), (1 ≤ f ∧ f ≤ V 15 3) → (∀ x, 1 ≤ x → x < f → resB (V 16) q (V 15 3) (V 15 5) (V 15 4 - 1 - p).toNat x = true) → ((V 15 3 - f).toNat) < f9 → J X G 12 [vA 15, vA 13, vI p, vI f] [] V := by
          intro f9
          induction f9 with
          | zero => intro f _ _ hm; exact absurd hm (Nat.not_lt_zero _)
          | succ f9 ih_12 =>
            intro f hf hk hm
            refine j_il3 hX dX8_isHomomorphic_12 ?_
            refine j_al0 hX dX8_isHomomorphic_13 rfl ?_
            refine j_getI hX hG fl_X8_22 (Or.inl rfl) (by decide) dX8_isHomomorphic_14 ?_
            refine j_icmp_ge (tgt := 38) hX dX8_isHomomorphic_17 (by decide) (fun h_17 => ?_) (fun h_17 => ?_)
            · skip
              refine j_inc2 hX dX8_isHomomorphic_38 rfl (by omega) ?_
              refine j_goto (tgt := 2) hX dX8_isHomomorphic_41 (by decide) ?_
              refine j_fg3 ?_
              exact ih_2 _ (by omega) (lt_stepI hi (fun x h0 h1 => hk x h0 (by omega))) (by omega)
            · skip
              refine j_al0 hX dX8_isHomomorphic_20 rfl ?_
              refine j_al1 hX dX8_isHomomorphic_21 rfl ?_
              refine j_il2 hX dX8_isHomomorphic_22 ?_
              refine j_il3 hX dX8_isHomomorphic_23 ?_
              refine j_pVI3 (ci := 8) hX hG lk_X8_106 (ok_X8_respects (by first | assumption | omega | decide) (by first | assumption | omega | decide) (by first | assumption | omega | decide) (by first | assumption | omega | decide) (by first | assumption | omega | decide) (by first | assumption | omega | decide)) (by decide) rfl (Nat.le_of_ble_eq_true rfl) (Nat.le_of_ble_eq_true rfl) (Nat.le_of_ble_eq_true rfl) rfl dX8_isHomomorphic_24 ?_
              refine j_ifz_ne (tgt := 32) hX dX8_isHomomorphic_27 (by decide) (fun h_27 => ?_) (fun h_27 => ?_)
              · skip
                refine j_inc3 hX dX8_isHomomorphic_32 rfl (by omega) ?_
                refine j_goto (tgt := 12) hX dX8_isHomomorphic_35 (by decide) ?_
                exact ih_12 _ (by omega) (fun x h0 h1 => (Int.lt_or_eq_of_le (Int.lt_add_one_iff.mp h1)).elim (hk x h0) (fun e => e ▸ h_27)) (by omega)
              · skip
                refine j_iconst hX dX8_isHomomorphic_30 ⟨by decide, by decide⟩ ?_
                exact j_retZ hR dX8_isHomomorphic_31 (by omega) ⟨by rw [if_neg]; exact fun a => h_27 (homB_t.mp a p hp.1 (by omega) f hf.1 (by omega)), rfl⟩
        exact lp_12 _ _ (by omega) (by omega) (Nat.lt_succ_self _)
  exact lp_2 _ _ (by omega) (by omega) (Nat.lt_succ_self _)
