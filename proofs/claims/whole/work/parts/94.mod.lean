/-! what the model's constructor calls, over the 87 cells that are made by then -/
abbrev NM : Nat := 87
set_option maxHeartbeats 4000000 in
theorem ok_X12_laysGroup_M {V : VV} {t : Int} {q : Nat} (hq9 : q < 7) (hg0 : V 55 10 = gO q) (ht0 : t = 0 ∧ q ≤ 4) : Ok NM yX12_laysGroup cX12_laysGroup 4 none 2 44 [vA 55, vI t] V (pV (fun V' => (∀ a b : Int, 0 ≤ a → a < gO q → 0 ≤ b → b < gO q → V' 60 (gO q * a + b) = gM q a b) ∧ fr [60] V V')) := by
  refine Ok.intro (by decide +kernel) (Nat.le_of_ble_eq_true rfl) (fun X G hX hG hR hoa hoV => ?_)
  show J X G 0 [vA 55, vI t, vU, vU] [] V
  have ht : (t = 0 ∧ q ≤ 4) ∨ (t = 1 ∧ q = 5) ∨ (t = 2 ∧ q = 6) := Or.inl ht0
  have hq6 := gO_le hq9
  have hgt := gO_t ht
  refine j_iconst hX dX12_laysGroup_0 ⟨by decide, by decide⟩ ?_
  refine j_is2 hX dX12_laysGroup_1 rfl ?_
  have lp_2 : ∀ (f9 : Nat) (x : Int) (W : VV), (0 ≤ x ∧ x ≤ gO q) → (fr [60] V W) → (∀ a b : Int, 0 ≤ a → a < x → 0 ≤ b → b < gO q → W 60 (gO q * a + b) = gM q a b) → ((gO q - x).toNat) < f9 → J X G 2 [vA 55, vI t, vI x, vU] [] W := by
    intro f9
    induction f9 with
    | zero => intro x W _ _ _ hm; exact absurd hm (Nat.not_lt_zero _)
    | succ f9 ih_2 =>
      intro x W hx hs hTT hm
      refine j_il2 hX dX12_laysGroup_2 ?_
      have w10 : W 55 10 = gO q := (hs 55 10 (by decide)).trans hg0
      refine j_al0 hX dX12_laysGroup_3 rfl ?_
      refine j_getI hX hG fl_X12_110 (Or.inl rfl) (by decide) dX12_laysGroup_4 ?_
      refine j_icmp_ge (tgt := 76) hX dX12_laysGroup_7 (by decide) (fun h_7 => ?_) (fun h_7 => ?_)
      · skip
        exact j_ret hR dX12_laysGroup_76 ⟨fun a b a0 a1 b0 b1 => hTT a b a0 (by omega) b0 b1, hs⟩
      · skip
        refine j_iconst hX dX12_laysGroup_10 ⟨by decide, by decide⟩ ?_
        refine j_is3 hX dX12_laysGroup_11 rfl ?_
        have lp_12 : ∀ (f9 : Nat) (y : Int) (Z : VV), (0 ≤ y ∧ y ≤ gO q) → (fr [60] V Z) → (∀ a b : Int, 0 ≤ a → a < x → 0 ≤ b → b < gO q → Z 60 (gO q * a + b) = gM q a b) → (∀ b : Int, 0 ≤ b → b < y → Z 60 (gO q * x + b) = gM q x b) → ((gO q - y).toNat) < f9 → J X G 12 [vA 55, vI t, vI x, vI y] [] Z := by
          intro f9
          induction f9 with
          | zero => intro y Z _ _ _ _ hm; exact absurd hm (Nat.not_lt_zero _)
          | succ f9 ih_12 =>
            intro y Z hy hs2 hSS hRR hm
            refine j_il3 hX dX12_laysGroup_12 ?_
            have z10 : Z 55 10 = gO q := (hs2 55 10 (by decide)).trans hg0
            refine j_al0 hX dX12_laysGroup_13 rfl ?_
            refine j_getI hX hG fl_X12_110 (Or.inl rfl) (by decide) dX12_laysGroup_14 ?_
            refine j_icmp_ge (tgt := 70) hX dX12_laysGroup_17 (by decide) (fun h_17 => ?_) (fun h_17 => ?_)
            · skip
              refine j_inc2 hX dX12_laysGroup_70 rfl (by omega) ?_
              refine j_goto (tgt := 2) hX dX12_laysGroup_73 (by decide) ?_
              refine j_fg3 ?_
              exact ih_2 _ _ (by omega) (by assumption) (fun a b a0 a1 b0 b1 => by by_cases e : a = x; (rw [e]; exact hRR b b0 (by omega)); (exact hSS a b a0 (by omega) b0 b1)) (by omega)
            · skip
              have hx9 : 0 ≤ x ∧ x < gO q := by omega
              have hy9 : 0 ≤ y ∧ y < gO q := by omega
              have ix := ix_b hq9 hx9 hy9
              refine j_al0 hX dX12_laysGroup_20 rfl ?_
              refine j_getR (q := 60) hX hG fl_X12_22 rfl rfl (by decide) dX12_laysGroup_21 ?_
              refine j_al0 hX dX12_laysGroup_24 rfl ?_
              refine j_getI hX hG fl_X12_110 (Or.inl rfl) (by decide) dX12_laysGroup_25 ?_
              refine j_eqS (st' := [vI (gO q), vA 60]) (by rw [z10]) ?_
              refine j_il2 hX dX12_laysGroup_28 ?_
              refine j_imul hX dX12_laysGroup_29 (by omega) ?_
              refine j_il3 hX dX12_laysGroup_30 ?_
              refine j_iadd hX dX12_laysGroup_31 (by omega) ?_
              refine j_il1 hX dX12_laysGroup_32 ?_
              refine j_if_ne (tgt := 47) hX dX12_laysGroup_33 (by decide) (fun h_33 => ?_) (fun h_33 => ?_)
              · skip
                exfalso
                omega
              · skip
                refine j_il2 hX dX12_laysGroup_36 ?_
                refine j_il3 hX dX12_laysGroup_37 ?_
                refine j_iadd hX dX12_laysGroup_38 (by omega) ?_
                refine j_al0 hX dX12_laysGroup_39 rfl ?_
                refine j_getI hX hG fl_X12_110 (Or.inl rfl) (by decide) dX12_laysGroup_40 ?_
                refine j_eqS (st' := [vI (gO q), vI (x + y), vI (gO q * x + y), vA 60]) (by rw [z10]) ?_
                refine j_irem hX dX12_laysGroup_43 (by omega) (by omega) ?_
                refine j_eqS (st' := [vI (gM q x y), vI (gO q * x + y), vA 60]) (by rw [gM_cyc hq9 (by omega) hx9 hy9]) ?_
                refine j_goto (tgt := 63) hX dX12_laysGroup_44 (by decide) ?_
                try refine j_eqS (st' := [vI (gM q x y), vI (gO q * x + y), vA 60]) (by rw [show q = 6 by omega]) ?_
                refine j_iast (n := 36) hX hG (by decide) (by omega) dX12_laysGroup_63 ?_
                refine j_inc3 hX dX12_laysGroup_64 rfl (by omega) ?_
                refine j_goto (tgt := 12) hX dX12_laysGroup_67 (by decide) ?_
                exact ih_12 _ _ (by omega) (fr_u hs2 (by decide)) (fun a b a0 a1 b0 b1 => by rw [up_n _ (fun z => ix_no hq9 (by omega) ⟨b0, b1⟩ (by omega) z.2)]; exact hSS a b a0 a1 b0 b1) (lt_stepI (fun b b0 b1 => by rw [up_n _ (by omega)]; exact hRR b b0 b1) (up_s ..)) (by omega)
        exact lp_12 _ _ _ (by omega) hs hTT (fun b b0 b1 => by omega) (Nat.lt_succ_self _)
  exact lp_2 _ _ _ (by omega) fr_0 (fun a b a0 a1 => by omega) (Nat.lt_succ_self _)
set_option maxHeartbeats 4000000 in
theorem ok_X12_inverseIn_M {V : VV} {x : Int} {q : Nat} (hq9 : q < 7) (hg0 : V 55 10 = gO q) (htb6 : ∀ a b : Int, 0 ≤ a → a < gO q → 0 ≤ b → b < gO q → V 60 (gO q * a + b) = gM q a b) (hx : 0 ≤ x ∧ x < gO q) : Ok NM yX12_inverseIn cX12_inverseIn 3 (some .int) 0 0 [vA 55, vI x] V (pI (fun x9 V' => x9 = gV q x ∧ V' = V)) := by
  refine Ok.intro (by decide +kernel) (Nat.le_of_ble_eq_true rfl) (fun X G hX hG hR hoa hoV => ?_)
  show J X G 0 [vA 55, vI x, vU] [] V
  have hq6 := gO_le hq9
  have v9 := gV_lt hq9 hx
  refine j_iconst hX dX12_inverseIn_0 ⟨by decide, by decide⟩ ?_
  refine j_is2 hX dX12_inverseIn_1 rfl ?_
  have lp_2 : ∀ (f9 : Nat) (y : Int), (0 ≤ y ∧ y ≤ gV q x) → ((gO q - y).toNat) < f9 → J X G 2 [vA 55, vI x, vI y] [] V := by
    intro f9
    induction f9 with
    | zero => intro y _ hm; exact absurd hm (Nat.not_lt_zero _)
    | succ f9 ih_2 =>
      intro y hy hm
      refine j_al0 hX dX12_inverseIn_2 rfl ?_
      have hy9 : 0 ≤ y ∧ y < gO q := by omega
      have ix := ix_b hq9 hx hy9
      refine j_getR (q := 60) hX hG fl_X12_22 rfl rfl (by decide) dX12_inverseIn_3 ?_
      refine j_al0 hX dX12_inverseIn_6 rfl ?_
      refine j_getI hX hG fl_X12_110 (Or.inl rfl) (by decide) dX12_inverseIn_7 ?_
      refine j_eqS (st' := [vI (gO q), vA 60]) (by rw [hg0]) ?_
      refine j_il1 hX dX12_inverseIn_10 ?_
      refine j_imul hX dX12_inverseIn_11 (by omega) ?_
      refine j_il2 hX dX12_inverseIn_12 ?_
      refine j_iadd hX dX12_inverseIn_13 (by omega) ?_
      refine j_iald (n := 36) hX hG (by decide) (by omega) dX12_inverseIn_14 ?_
      refine j_eqS (st' := [vI (gM q x y)]) (by rw [htb6 x y hx.1 hx.2 hy9.1 hy9.2]) ?_
      refine j_if_eq (tgt := 24) hX dX12_inverseIn_15 (by decide) (fun h_15 => ?_) (fun h_15 => ?_)
      · skip
        refine j_il2 hX dX12_inverseIn_24 ?_
        exact j_retI hR dX12_inverseIn_25 ⟨gM_u hq9 hx ⟨hy.1, by omega⟩ h_15, rfl⟩
      · skip
        refine j_inc2 hX dX12_inverseIn_18 rfl (by omega) ?_
        refine j_goto (tgt := 2) hX dX12_inverseIn_21 (by decide) ?_
        exact ih_2 _ (by have h8 := gM_i hq9 hx; by_cases e8 : y = gV q x; exact absurd (by rw [e8]; exact h8.1) h_15; omega) (by omega)
  exact lp_2 _ _ (by omega) (Nat.lt_succ_self _)
set_option maxHeartbeats 4000000 in
theorem ok_X12_takes_M {V : VV} {q : Nat} (hq9 : q < 7) (hg0 : V 55 10 = gO q) (htb6 : ∀ a b : Int, 0 ≤ a → a < gO q → 0 ≤ b → b < gO q → V 60 (gO q * a + b) = gM q a b) (hw : V 55 11 = 2 ∨ V 55 11 = 3) (hn : 1 ≤ V 55 12 ∧ V 55 12 ≤ 16) : Ok NM yX12_takes cX12_takes 2 none 1 22 [vA 55] V (pV (fun V' => MG V' q ∧ MO V' ∧ V' 55 2 = V 55 11 ∧ V' 55 5 = V 55 12 ∧ (∀ e, 0 ≤ e → e < V' 55 3 → V' 58 e = V 61 e) ∧ (∀ k, 0 ≤ k → k < V 55 12 → V' 59 k = V 62 k) ∧ (V' 66 0 = 0 ∧ V' 66 1 = 0 ∧ V' 55 21 = 0 ∧ V' 55 38 = 0 ∧ V' 55 45 = 0) ∧ (∀ b, b = 0 ∨ (6 ≤ b ∧ b ≠ 21 ∧ b ≠ 38 ∧ b ≠ 45) → V' 55 b = V 55 b) ∧ fr [55, 56, 57, 58, 59, 66] V V')) := by
  refine Ok.intro (by decide +kernel) (Nat.le_of_ble_eq_true rfl) (fun X G hX hG hR hoa hoV => ?_)
  show J X G 0 [vA 55, vU] [] V
  have hq6 := gO_le hq9
  have gg := gg_b hq9
  have nb := nd_b (w := V 55 11) hq9
  refine j_al0 hX dX12_takes_0 rfl ?_
  refine j_al0 hX dX12_takes_1 rfl ?_
  refine j_getI hX hG fl_X12_110 (Or.inl rfl) (by decide) dX12_takes_2 ?_
  refine j_putI hX hG fp_X12_136 rfl (by decide) dX12_takes_5 ?_
  refine j_al0 hX dX12_takes_8 rfl ?_
  refine j_al0 hX dX12_takes_9 rfl ?_
  refine j_getI hX hG fl_X12_113 (Or.inl rfl) (by decide) dX12_takes_10 ?_
  refine j_putI hX hG fp_X12_139 rfl (by decide) dX12_takes_13 ?_
  refine j_al0 hX dX12_takes_16 rfl ?_
  refine j_al0 hX dX12_takes_17 rfl ?_
  refine j_getI hX hG fl_X12_116 (Or.inl rfl) (by decide) dX12_takes_18 ?_
  refine j_putI hX hG fp_X12_142 rfl (by decide) dX12_takes_21 ?_
  generalize hC : up _ 55 5 _ = C
  have c1 : C 55 1 = gO q := by rw [← hC, ← hg0]; simp [up]
  have c2 : C 55 2 = V 55 11 := by rw [← hC]; simp [up]
  have c5 : C 55 5 = V 55 12 := by rw [← hC]; simp [up]
  have cF : ∀ b, b = 0 ∨ 6 ≤ b → C 55 b = V 55 b := fun b hb => by rw [← hC, up_n _ (by omega), up_n _ (by omega), up_n _ (by omega)]
  have cC : ∀ a b, a ≠ 55 → C a b = V a b := fun a b ha => by rw [← hC, up_n _ (by omega), up_n _ (by omega), up_n _ (by omega)]
  have jn_49 : ∀ (s : Int), (s = (if V 55 11 = 2 then (gO q : Int) else gO q * gO q)) → J X G 49 [vA 55, vU] [vI s, vA 55] C := by
    intro s hs9
    refine j_putI hX hG fp_X12_145 rfl (by decide) dX12_takes_49 ?_
    refine j_al0 hX dX12_takes_52 rfl ?_
    refine j_al0 hX dX12_takes_53 rfl ?_
    refine j_getI hX hG fl_X12_136 (Or.inl rfl) (by decide) dX12_takes_54 ?_
    refine j_al0 hX dX12_takes_57 rfl ?_
    refine j_getI hX hG fl_X12_145 (Or.inl rfl) (by decide) dX12_takes_58 ?_
    refine j_imul hX dX12_takes_61 (by rw [up_n _ (by decide), up_s, c1, hs9]; omega) ?_
    refine j_putI hX hG fp_X12_148 rfl (by decide) dX12_takes_62 ?_
    have nb2 : 0 ≤ (gO q : Int) * s ∧ (gO q : Int) * s ≤ 216 := by rw [hs9]; exact nb
    generalize hW0 : up _ 55 3 _ = W0
    have w1 : W0 55 1 = gO q := by rw [← hW0, ← c1]; simp [up]
    have w2 : W0 55 2 = V 55 11 := by rw [← hW0, ← c2]; simp [up]
    have w3 : W0 55 3 = gO q * s := by rw [← hW0, ← c1]; simp [up]
    have w4 : W0 55 4 = s := by rw [← hW0]; simp [up]
    have w5 : W0 55 5 = V 55 12 := by rw [← hW0, ← c5]; simp [up]
    have wF : ∀ b, b = 0 ∨ 6 ≤ b → W0 55 b = V 55 b := fun b hb => by rw [← hW0, up_n _ (by omega), up_n _ (by omega)]; exact cF b hb
    have wC : ∀ a b, a ≠ 55 → W0 a b = V a b := fun a b ha => by rw [← hW0, up_n _ (by omega), up_n _ (by omega)]; exact cC a b ha
    refine j_iconst hX dX12_takes_65 ⟨by decide, by decide⟩ ?_
    refine j_is1 hX dX12_takes_66 rfl ?_
    have lp_67 : ∀ (f9 : Nat) (k : Int) (W : VV), (0 ≤ k ∧ k ≤ gO q * gO q) → (fr [56] W0 W) → (∀ j, 0 ≤ j → j < k → W 56 j = V 60 j) → ((gO q * gO q - k).toNat) < f9 → J X G 67 [vA 55, vI k] [] W := by
      intro f9
      induction f9 with
      | zero => intro k W _ _ _ hm; exact absurd hm (Nat.not_lt_zero _)
      | succ f9 ih_67 =>
        intro k W hk hs1 hA9 hm
        refine j_il1 hX dX12_takes_67 ?_
        refine j_al0 hX dX12_takes_68 rfl ?_
        refine j_getI hX hG fl_X12_136 (Or.inl rfl) (by decide) dX12_takes_69 ?_
        refine j_al0 hX dX12_takes_72 rfl ?_
        refine j_getI hX hG fl_X12_136 (Or.inl rfl) (by decide) dX12_takes_73 ?_
        refine j_eqS (st' := [vI (gO q), vI (gO q), vI k]) (by rw [hs1 55 1 (by decide), w1]) ?_
        refine j_imul hX dX12_takes_76 (by omega) ?_
        refine j_icmp_ge (tgt := 98) hX dX12_takes_77 (by decide) (fun h_77 => ?_) (fun h_77 => ?_)
        · skip
          refine j_iconst hX dX12_takes_98 ⟨by decide, by decide⟩ ?_
          refine j_is1 hX dX12_takes_99 rfl ?_
          have lp_100 : ∀ (f9 : Nat) (x : Int) (Y : VV), (0 ≤ x ∧ x ≤ gO q) → (fr [57] W Y) → (∀ j, 0 ≤ j → j < x → Y 57 j = gV q j) → ((gO q - x).toNat) < f9 → J X G 100 [vA 55, vI x] [] Y := by
            intro f9
            induction f9 with
            | zero => intro x Y _ _ _ hm; exact absurd hm (Nat.not_lt_zero _)
            | succ f9 ih_100 =>
              intro x Y hx hs2 hB9 hm
              refine j_il1 hX dX12_takes_100 ?_
              refine j_al0 hX dX12_takes_101 rfl ?_
              refine j_getI hX hG fl_X12_136 (Or.inl rfl) (by decide) dX12_takes_102 ?_
              refine j_eqS (st' := [vI (gO q), vI x]) (by rw [hs2 55 1 (by decide), hs1 55 1 (by decide), w1]) ?_
              refine j_icmp_ge (tgt := 125) hX dX12_takes_105 (by decide) (fun h_105 => ?_) (fun h_105 => ?_)
              · skip
                refine j_iconst hX dX12_takes_125 ⟨by decide, by decide⟩ ?_
                refine j_is1 hX dX12_takes_126 rfl ?_
                have lp_127 : ∀ (f9 : Nat) (e : Int) (Z : VV), (0 ≤ e ∧ e ≤ gO q * s) → (fr [58] Y Z) → (∀ j, 0 ≤ j → j < e → Z 58 j = V 61 j) → ((gO q * s - e).toNat) < f9 → J X G 127 [vA 55, vI e] [] Z := by
                  intro f9
                  induction f9 with
                  | zero => intro e Z _ _ _ hm; exact absurd hm (Nat.not_lt_zero _)
                  | succ f9 ih_127 =>
                    intro e Z he hs3 hC9 hm
                    refine j_il1 hX dX12_takes_127 ?_
                    refine j_al0 hX dX12_takes_128 rfl ?_
                    refine j_getI hX hG fl_X12_148 (Or.inl rfl) (by decide) dX12_takes_129 ?_
                    refine j_eqS (st' := [vI (gO q * s), vI e]) (by rw [hs3 55 3 (by decide), hs2 55 3 (by decide), hs1 55 3 (by decide), w3]) ?_
                    refine j_icmp_ge (tgt := 153) hX dX12_takes_132 (by decide) (fun h_132 => ?_) (fun h_132 => ?_)
                    · skip
                      refine j_iconst hX dX12_takes_153 ⟨by decide, by decide⟩ ?_
                      refine j_is1 hX dX12_takes_154 rfl ?_
                      have lp_155 : ∀ (f9 : Nat) (m : Int) (Q : VV), (0 ≤ m ∧ m ≤ V 55 12) → (fr [59] Z Q) → (∀ j, 0 ≤ j → j < m → Q 59 j = V 62 j) → ((V 55 12 - m).toNat) < f9 → J X G 155 [vA 55, vI m] [] Q := by
                        intro f9
                        induction f9 with
                        | zero => intro m Q _ _ _ hm; exact absurd hm (Nat.not_lt_zero _)
                        | succ f9 ih_155 =>
                          intro m Q hm1 hs4 hD9 hm
                          refine j_il1 hX dX12_takes_155 ?_
                          refine j_al0 hX dX12_takes_156 rfl ?_
                          refine j_getI hX hG fl_X12_142 (Or.inl rfl) (by decide) dX12_takes_157 ?_
                          refine j_eqS (st' := [vI (V 55 12), vI m]) (by rw [hs4 55 5 (by decide), hs3 55 5 (by decide), hs2 55 5 (by decide), hs1 55 5 (by decide), w5]) ?_
                          refine j_icmp_ge (tgt := 181) hX dX12_takes_160 (by decide) (fun h_160 => ?_) (fun h_160 => ?_)
                          · skip
                            refine j_al0 hX dX12_takes_181 rfl ?_
                            refine j_getR (q := 66) hX hG fl_X12_41 rfl rfl (by decide) dX12_takes_182 ?_
                            refine j_iconst hX dX12_takes_185 ⟨by decide, by decide⟩ ?_
                            refine j_iconst hX dX12_takes_186 ⟨by decide, by decide⟩ ?_
                            refine j_iast (n := 2) hX hG (by decide) (by decide) dX12_takes_187 ?_
                            refine j_al0 hX dX12_takes_188 rfl ?_
                            refine j_getR (q := 66) hX hG fl_X12_41 rfl rfl (by decide) dX12_takes_189 ?_
                            refine j_iconst hX dX12_takes_192 ⟨by decide, by decide⟩ ?_
                            refine j_iconst hX dX12_takes_193 ⟨by decide, by decide⟩ ?_
                            refine j_iast (n := 2) hX hG (by decide) (by decide) dX12_takes_194 ?_
                            refine j_al0 hX dX12_takes_195 rfl ?_
                            refine j_iconst hX dX12_takes_196 ⟨by decide, by decide⟩ ?_
                            refine j_putI hX hG fp_X12_155 rfl (by decide) dX12_takes_197 ?_
                            refine j_al0 hX dX12_takes_200 rfl ?_
                            refine j_iconst hX dX12_takes_201 ⟨by decide, by decide⟩ ?_
                            refine j_putZ hX hG fp_X12_158 rfl (by omega) (by decide) dX12_takes_202 ?_
                            refine j_al0 hX dX12_takes_205 rfl ?_
                            refine j_iconst hX dX12_takes_206 ⟨by decide, by decide⟩ ?_
                            refine j_putZ hX hG fp_X12_162 rfl (by omega) (by decide) dX12_takes_207 ?_
                            exact j_ret hR dX12_takes_210 (by
      generalize hE : up _ 55 45 _ = E
      have eF : ∀ a b, a ≠ 66 → (a = 55 → b ≠ 21 ∧ b ≠ 38 ∧ b ≠ 45) → E a b = Q a b := fun a b h1 h2 => by rw [← hE, up_n _ (by omega), up_n _ (by omega), up_n _ (by omega), up_n _ (by omega), up_n _ (by omega)]
      have q0 : E 66 0 = 0 := by rw [← hE]; simp [up]
      have q1 : E 66 1 = 0 := by rw [← hE]; simp [up]
      have q21 : E 55 21 = 0 := by rw [← hE]; simp [up]
      have q38 : E 55 38 = 0 := by rw [← hE]; simp [up]
      have q45 : E 55 45 = 0 := by rw [← hE]; simp [up]
      clear hE
      have f55 : ∀ b, b ≠ 21 → b ≠ 38 → b ≠ 45 → E 55 b = W0 55 b := fun b h1 h2 h3 => by rw [eF 55 b (by decide) (fun _ => ⟨h1, h2, h3⟩), hs4 55 b (by decide), hs3 55 b (by decide), hs2 55 b (by decide), hs1 55 b (by decide)]
      have e1 := (f55 1 (by decide) (by decide) (by decide)).trans w1
      have e2 := (f55 2 (by decide) (by decide) (by decide)).trans w2
      have e3 := (f55 3 (by decide) (by decide) (by decide)).trans w3
      have e4 := (f55 4 (by decide) (by decide) (by decide)).trans w4
      have e5 := (f55 5 (by decide) (by decide) (by decide)).trans w5
      refine ⟨⟨hq9, e1, fun a b a0 a1 b0 b1 => ?_, fun a a0 a1 => ?_⟩, ⟨by omega, ?_, ?_⟩, e2, e5, fun e' z0 z1 => ?_, fun k' z0 z1 => ?_, ⟨q0, q1, q21, q38, q45⟩, fun b hb => ?_, ?_⟩
      · rw [eF 56 _ (by decide) (fun z => by omega), hs4 56 _ (by decide), hs3 56 _ (by decide), hs2 56 _ (by decide)]
        have ib := ix_g hq9 ⟨a0, a1⟩ ⟨b0, b1⟩
        rw [hA9 _ ib.1 (by omega)]
        exact htb6 a b a0 a1 b0 b1
      · rw [eF 57 _ (by decide) (fun z => by omega), hs4 57 _ (by decide), hs3 57 _ (by decide)]
        exact hB9 a a0 (by omega)
      · rw [e1, e2, e4, hs9]
        rcases hw with z | z
        · exact Or.inl ⟨z, if_pos z⟩
        · exact Or.inr ⟨z, if_neg (by omega)⟩
      · rw [e1, e3, e4, Int.mul_comm]
      · rw [e3] at z1
        rw [eF 58 _ (by decide) (fun z => by omega), hs4 58 _ (by decide)]
        exact hC9 e' z0 (by omega)
      · rw [eF 59 _ (by decide) (fun z => by omega)]
        exact hD9 k' z0 (by omega)
      · rw [f55 b (by omega) (by omega) (by omega)]
        exact wF b (by omega)
      · intro a b ha
        simp at ha
        rw [eF a b (by omega) (fun z => by omega), hs4 a b (by simp; omega), hs3 a b (by simp; omega), hs2 a b (by simp; omega), hs1 a b (by simp; omega)]
        exact wC a b (by omega))
                          · skip
                            refine j_al0 hX dX12_takes_163 rfl ?_
                            refine j_getR (q := 59) hX hG fl_X12_19 rfl rfl (by decide) dX12_takes_164 ?_
                            refine j_il1 hX dX12_takes_167 ?_
                            refine j_al0 hX dX12_takes_168 rfl ?_
                            refine j_getR (q := 62) hX hG fl_X12_28 rfl rfl (by decide) dX12_takes_169 ?_
                            refine j_il1 hX dX12_takes_172 ?_
                            refine j_iald (n := 16) hX hG (by decide) (by omega) dX12_takes_173 ?_
                            refine j_iast (n := 16) hX hG (by decide) (by omega) dX12_takes_174 ?_
                            refine j_inc1 hX dX12_takes_175 rfl (by omega) ?_
                            refine j_goto (tgt := 155) hX dX12_takes_178 (by decide) ?_
                            exact ih_155 _ _ (by omega) (fr_u hs4 (by decide)) (lt_stepI (fun j j0 j1 => by rw [up_n _ (by omega)]; exact hD9 j j0 j1) (by rw [up_s, hs4 62 m (by decide), hs3 62 m (by decide), hs2 62 m (by decide), hs1 62 m (by decide)]; exact wC 62 m (by decide))) (by omega)
                      exact lp_155 _ _ _ (by omega) fr_0 (fun j j0 j1 => by omega) (Nat.lt_succ_self _)
                    · skip
                      refine j_al0 hX dX12_takes_135 rfl ?_
                      refine j_getR (q := 58) hX hG fl_X12_16 rfl rfl (by decide) dX12_takes_136 ?_
                      refine j_il1 hX dX12_takes_139 ?_
                      refine j_al0 hX dX12_takes_140 rfl ?_
                      refine j_getR (q := 61) hX hG fl_X12_25 rfl rfl (by decide) dX12_takes_141 ?_
                      refine j_il1 hX dX12_takes_144 ?_
                      refine j_iald (n := 216) hX hG (by decide) (by omega) dX12_takes_145 ?_
                      refine j_iast (n := 216) hX hG (by decide) (by omega) dX12_takes_146 ?_
                      refine j_inc1 hX dX12_takes_147 rfl (by omega) ?_
                      refine j_goto (tgt := 127) hX dX12_takes_150 (by decide) ?_
                      exact ih_127 _ _ (by omega) (fr_u hs3 (by decide)) (lt_stepI (fun j j0 j1 => by rw [up_n _ (by omega)]; exact hC9 j j0 j1) (by rw [up_s, hs3 61 e (by decide), hs2 61 e (by decide), hs1 61 e (by decide)]; exact wC 61 e (by decide))) (by omega)
                exact lp_127 _ _ _ (by omega) fr_0 (fun j j0 j1 => by omega) (Nat.lt_succ_self _)
              · skip
                refine j_al0 hX dX12_takes_108 rfl ?_
                refine j_getR (q := 57) hX hG fl_X12_13 rfl rfl (by decide) dX12_takes_109 ?_
                refine j_il1 hX dX12_takes_112 ?_
                refine j_al0 hX dX12_takes_113 rfl ?_
                refine j_il1 hX dX12_takes_114 ?_
                have y10 : Y 55 10 = gO q := by rw [hs2 55 10 (by decide), hs1 55 10 (by decide), wF 10 (by decide)]; exact hg0
                have yT : ∀ a b : Int, 0 ≤ a → a < gO q → 0 ≤ b → b < gO q → Y 60 (gO q * a + b) = gM q a b := fun a b a0 a1 b0 b1 => by rw [hs2 60 _ (by decide), hs1 60 _ (by decide), wC 60 _ (by decide)]; exact htb6 a b a0 a1 b0 b1
                refine j_pVI1 (ci := 12) hX hG lk_X12_151 (ok_X12_inverseIn_M hq9 y10 yT (by omega)) (by decide) rfl (Nat.le_of_ble_eq_true rfl) (Nat.le_of_ble_eq_true rfl) (Nat.le_of_ble_eq_true rfl) rfl dX12_takes_115 ?_
                refine j_iast (n := 6) hX hG (by decide) (by omega) dX12_takes_118 ?_
                refine j_inc1 hX dX12_takes_119 rfl (by omega) ?_
                refine j_goto (tgt := 100) hX dX12_takes_122 (by decide) ?_
                exact ih_100 _ _ (by omega) (fr_u hs2 (by decide)) (lt_stepI (fun j j0 j1 => by rw [up_n _ (by omega)]; exact hB9 j j0 j1) (up_s ..)) (by omega)
          exact lp_100 _ _ _ (by omega) fr_0 (fun j j0 j1 => by omega) (Nat.lt_succ_self _)
        · skip
          refine j_al0 hX dX12_takes_80 rfl ?_
          refine j_getR (q := 56) hX hG fl_X12_7 rfl rfl (by decide) dX12_takes_81 ?_
          refine j_il1 hX dX12_takes_84 ?_
          refine j_al0 hX dX12_takes_85 rfl ?_
          refine j_getR (q := 60) hX hG fl_X12_22 rfl rfl (by decide) dX12_takes_86 ?_
          refine j_il1 hX dX12_takes_89 ?_
          refine j_iald (n := 36) hX hG (by decide) (by omega) dX12_takes_90 ?_
          refine j_iast (n := 36) hX hG (by decide) (by omega) dX12_takes_91 ?_
          refine j_inc1 hX dX12_takes_92 rfl (by omega) ?_
          refine j_goto (tgt := 67) hX dX12_takes_95 (by decide) ?_
          exact ih_67 _ _ (by omega) (fr_u hs1 (by decide)) (lt_stepI (fun j j0 j1 => by rw [up_n _ (by omega)]; exact hA9 j j0 j1) (by rw [up_s, hs1 60 k (by decide)]; exact wC 60 k (by decide))) (by omega)
    exact lp_67 _ _ _ (by omega) fr_0 (fun j j0 j1 => by omega) (Nat.lt_succ_self _)
  refine j_al0 hX dX12_takes_24 rfl ?_
  refine j_al0 hX dX12_takes_25 rfl ?_
  refine j_getI hX hG fl_X12_139 (Or.inl rfl) (by decide) dX12_takes_26 ?_
  refine j_iconst hX dX12_takes_29 ⟨by decide, by decide⟩ ?_
  refine j_icmp_ne (tgt := 40) hX dX12_takes_30 (by decide) (fun h_30 => ?_) (fun h_30 => ?_)
  · skip
    refine j_al0 hX dX12_takes_40 rfl ?_
    refine j_getI hX hG fl_X12_136 (Or.inl rfl) (by decide) dX12_takes_41 ?_
    refine j_al0 hX dX12_takes_44 rfl ?_
    refine j_getI hX hG fl_X12_136 (Or.inl rfl) (by decide) dX12_takes_45 ?_
    refine j_imul hX dX12_takes_48 (by rw [c1]; omega) ?_
    exact jn_49 _ (by first | (rw [if_pos (by omega)]; exact c1) | (rw [if_neg (by omega), c1]))
  · skip
    refine j_al0 hX dX12_takes_33 rfl ?_
    refine j_getI hX hG fl_X12_136 (Or.inl rfl) (by decide) dX12_takes_34 ?_
    refine j_goto (tgt := 49) hX dX12_takes_37 (by decide) ?_
    exact jn_49 _ (by first | (rw [if_pos (by omega)]; exact c1) | (rw [if_neg (by omega), c1]))
