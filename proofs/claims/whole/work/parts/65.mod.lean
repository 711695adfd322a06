def kpP (V : VV) : Int := if V 55 21 = 10 then 9 else V 55 21
def KPS (V V' : VV) : Prop := V' 55 21 = kpP V + 1 ∧ (∀ j, 0 ≤ j → j < 234 * kpP V → V' 67 j = if V 55 21 = 10 then V 67 (j + 234) else V 67 j) ∧ (∀ e, 0 ≤ e → e < V 55 3 → V' 67 (234 * kpP V + e) = V 58 e) ∧ (∀ k, 0 ≤ k → k < V 55 5 → V' 67 (234 * kpP V + 216 + k) = V 59 k) ∧ V' 67 (234 * kpP V + 233) = V 55 5
def fK (V W : VV) : Prop := (∀ b, b ≠ 21 → W 55 b = V 55 b) ∧ ∀ a b, a ≠ 55 → a ≠ 67 → W a b = V a b
theorem fK_0 {V : VV} : fK V V := ⟨fun _ _ => rfl, fun _ _ _ _ => rfl⟩
theorem kp_b {V : VV} (h : 0 ≤ V 55 21 ∧ V 55 21 ≤ 10) : 0 ≤ kpP V ∧ kpP V ≤ 9 := by
  unfold kpP
  split <;> omega
theorem KPS.c {V U V' : VV} (h : KPS U V') (e : ∀ b, b ≠ 0 → U 55 b = V 55 b) (e' : ∀ a b, a ≠ 55 → U a b = V a b) : KPS V V' := by
  unfold KPS kpP at h ⊢
  rw [e 21 (by decide), e 3 (by decide), e 5 (by decide), show U 58 = V 58 from funext fun b => e' 58 b (by decide), show U 59 = V 59 from funext fun b => e' 59 b (by decide), show U 67 = V 67 from funext fun b => e' 67 b (by decide)] at h
  exact h
theorem KPS.d {V V' W : VV} (h : KPS V V') (e : ∀ b, W 55 b = V' 55 b) (e' : ∀ b, W 67 b = V' 67 b) : KPS V W := by
  unfold KPS at h ⊢
  rw [e 21, show W 67 = V' 67 from funext e']
  exact h
theorem code_16 {g : Int} {R : Int → Int} {k : Int} (hg : 2 ≤ g ∧ g ≤ 6) (hk : 0 ≤ k ∧ k < 16) (hR : ∀ j, 0 ≤ j → j < k → 0 ≤ R j ∧ R j < g) : 0 ≤ codeF g R k.toNat ∧ 0 ≤ codeF g R k.toNat * g ∧ codeF g R k.toNat * g ≤ 2821109907456 := by
  have h1 := codeF_b (b := g) (R := R) (by omega) k.toNat (fun j j0 j1 => hR j j0 (by omega))
  have h2 : g ^ k.toNat ≤ 470184984576 := by
    have a1 : g.toNat ^ k.toNat ≤ 6 ^ 15 := Nat.le_trans (Nat.pow_le_pow_left (by omega) _) (Nat.pow_le_pow_right (by decide) (by omega))
    have e : ((g.toNat ^ k.toNat : Nat) : Int) = g ^ k.toNat := by push_cast; rw [show ((g.toNat : Nat) : Int) = g by omega]
    rw [← e]
    exact Int.ofNat_le.mpr a1
  have h3 : codeF g R k.toNat * g ≤ 470184984576 * 6 := Int.mul_le_mul (by omega) hg.2 (by omega) (by decide)
  exact ⟨h1.1, Int.mul_nonneg h1.1 (by omega), h3⟩
set_option maxHeartbeats 4000000 in
theorem ok_X12_keeps {V : VV} (hmo : MO V) (hnm : 1 ≤ V 55 5 ∧ V 55 5 ≤ 16) (hpm : 0 ≤ V 55 21 ∧ V 55 21 ≤ 10) : Ok NA yX12_keeps cX12_keeps 3 none 0 0 [vA 55] V (pV (fun V' => KPS V V' ∧ fK V V')) := by
  refine Ok.intro (by decide +kernel) (Nat.le_of_ble_eq_true rfl) (fun X G hX hG hR hoa hoV => ?_)
  show J X G 0 [vA 55, vU, vU] [] V
  have hb9 := hmo.b
  have kb := kp_b hpm
  have jn_55 : ∀ (W : VV), (W 55 21 = kpP V) → (∀ j, 0 ≤ j → j < 234 * kpP V → W 67 j = if V 55 21 = 10 then V 67 (j + 234) else V 67 j) → (fK V W) → J X G 55 [vA 55, vU, vU] [] W := by
    intro W w21 wP wF
    refine j_sipush hX dX12_keeps_55 (by decide) ⟨by decide, by decide⟩ ?_
    refine j_al0 hX dX12_keeps_58 rfl ?_
    refine j_getI hX hG fl_X12_155 (Or.inl rfl) (by decide) dX12_keeps_59 ?_
    refine j_eqS (st' := [vI (kpP V), vI 234]) (by rw [w21]) ?_
    refine j_imul hX dX12_keeps_62 (by omega) ?_
    refine j_is1 hX dX12_keeps_63 rfl ?_
    refine j_iconst hX dX12_keeps_64 ⟨by decide, by decide⟩ ?_
    refine j_is2 hX dX12_keeps_65 rfl ?_
    have lp_66 : ∀ (f9 : Nat) (e : Int) (Z : VV), (0 ≤ e ∧ e ≤ V 55 3) → (fr [67] W Z) → (∀ j, 0 ≤ j → j < e → Z 67 (234 * kpP V + j) = V 58 j) → (∀ j, j < 234 * kpP V → Z 67 j = W 67 j) → ((V 55 3 - e).toNat) < f9 → J X G 66 [vA 55, vI (234 * kpP V), vI e] [] Z := by
      intro f9
      induction f9 with
      | zero => intro e Z _ _ _ _ hm; exact absurd hm (Nat.not_lt_zero _)
      | succ f9 ih_66 =>
        intro e Z he hs3 hC9 hD9 hm
        refine j_il2 hX dX12_keeps_66 ?_
        refine j_al0 hX dX12_keeps_67 rfl ?_
        refine j_getI hX hG fl_X12_148 (Or.inl rfl) (by decide) dX12_keeps_68 ?_
        refine j_eqS (st' := [vI (V 55 3), vI e]) (by rw [hs3 55 3 (by decide), wF.1 3 (by decide)]) ?_
        refine j_icmp_ge (tgt := 94) hX dX12_keeps_71 (by decide) (fun h_71 => ?_) (fun h_71 => ?_)
        · skip
          refine j_iconst hX dX12_keeps_94 ⟨by decide, by decide⟩ ?_
          refine j_is2 hX dX12_keeps_95 rfl ?_
          have lp_96 : ∀ (f9 : Nat) (m : Int) (Q : VV), (0 ≤ m ∧ m ≤ V 55 5) → (fr [67] Z Q) → (∀ j, 0 ≤ j → j < m → Q 67 (234 * kpP V + 216 + j) = V 59 j) → (∀ j, j < 234 * kpP V + 216 → Q 67 j = Z 67 j) → ((V 55 5 - m).toNat) < f9 → J X G 96 [vA 55, vI (234 * kpP V), vI m] [] Q := by
            intro f9
            induction f9 with
            | zero => intro m Q _ _ _ _ hm; exact absurd hm (Nat.not_lt_zero _)
            | succ f9 ih_96 =>
              intro m Q hm1 hs4 hE9 hF9 hm
              refine j_il2 hX dX12_keeps_96 ?_
              refine j_al0 hX dX12_keeps_97 rfl ?_
              refine j_getI hX hG fl_X12_142 (Or.inl rfl) (by decide) dX12_keeps_98 ?_
              refine j_eqS (st' := [vI (V 55 5), vI m]) (by rw [hs4 55 5 (by decide), hs3 55 5 (by decide), wF.1 5 (by decide)]) ?_
              refine j_icmp_ge (tgt := 128) hX dX12_keeps_101 (by decide) (fun h_101 => ?_) (fun h_101 => ?_)
              · skip
                refine j_al0 hX dX12_keeps_128 rfl ?_
                refine j_getR (q := 67) hX hG fl_X12_44 rfl rfl (by decide) dX12_keeps_129 ?_
                refine j_il1 hX dX12_keeps_132 ?_
                refine j_sipush hX dX12_keeps_133 (by decide) ⟨by decide, by decide⟩ ?_
                refine j_iadd hX dX12_keeps_136 (by omega) ?_
                refine j_iconst hX dX12_keeps_137 ⟨by decide, by decide⟩ ?_
                refine j_isub hX dX12_keeps_138 (by omega) ?_
                refine j_al0 hX dX12_keeps_139 rfl ?_
                refine j_getI hX hG fl_X12_142 (Or.inl rfl) (by decide) dX12_keeps_140 ?_
                refine j_iast (n := 2340) hX hG (by decide) (by omega) dX12_keeps_143 ?_
                refine j_al0 hX dX12_keeps_144 rfl ?_
                refine j_dup hX dX12_keeps_145 rfl ?_
                refine j_getI hX hG fl_X12_155 (Or.inl rfl) (by decide) dX12_keeps_146 ?_
                refine j_iconst hX dX12_keeps_149 ⟨by decide, by decide⟩ ?_
                refine j_iadd hX dX12_keeps_150 (by rw [up_n _ (by omega), hs4 55 21 (by decide), hs3 55 21 (by decide), w21]; omega) ?_
                refine j_putI hX hG fp_X12_155 rfl (by decide) dX12_keeps_151 ?_
                exact j_ret hR dX12_keeps_154 (by
      generalize hE : up _ 55 21 _ = E
      have q21 : E 55 21 = kpP V + 1 := by rw [← hE, up_s, up_n _ (by omega), hs4 55 21 (by decide), hs3 55 21 (by decide), w21]
      have q5 : Q 55 5 = V 55 5 := by rw [hs4 55 5 (by decide), hs3 55 5 (by decide), wF.1 5 (by decide)]
      have qF : ∀ j, j ≠ 234 * kpP V + 234 - 1 → E 67 j = Q 67 j := fun j hj => by rw [← hE, up_n _ (by omega), up_n _ (by omega)]
      have qL : E 67 (234 * kpP V + 233) = V 55 5 := by rw [← hE, up_n _ (by omega), show 234 * kpP V + 233 = 234 * kpP V + 234 - 1 by omega, up_s]; exact q5
      have qO : ∀ b, b ≠ 21 → E 55 b = Q 55 b := fun b hb => by rw [← hE, up_n _ (by omega), up_n _ (by omega)]
      have qC : ∀ a b, a ≠ 55 → a ≠ 67 → E a b = Q a b := fun a b ha hb => by rw [← hE, up_n _ (by omega), up_n _ (by omega)]
      clear hE
      refine ⟨⟨q21, fun j j0 j1 => ?_, fun e' z0 z1 => ?_, fun k' z0 z1 => ?_, qL⟩, fun b hb => ?_, fun a b ha hb => ?_⟩
      · rw [qF j (by omega), hF9 j (by omega), hD9 j j1]; exact wP j j0 j1
      · rw [qF _ (by omega), hF9 _ (by omega)]; exact hC9 e' z0 (by omega)
      · rw [qF _ (by omega)]; exact hE9 k' z0 (by omega)
      · rw [qO b hb, hs4 55 b (by decide), hs3 55 b (by decide)]; exact wF.1 b hb
      · rw [qC a b ha hb, hs4 a b (by simpa using hb), hs3 a b (by simpa using hb)]; exact wF.2 a b ha hb)
              · skip
                refine j_al0 hX dX12_keeps_104 rfl ?_
                refine j_getR (q := 67) hX hG fl_X12_44 rfl rfl (by decide) dX12_keeps_105 ?_
                refine j_il1 hX dX12_keeps_108 ?_
                refine j_sipush hX dX12_keeps_109 (by decide) ⟨by decide, by decide⟩ ?_
                refine j_iadd hX dX12_keeps_112 (by omega) ?_
                refine j_il2 hX dX12_keeps_113 ?_
                refine j_iadd hX dX12_keeps_114 (by omega) ?_
                refine j_al0 hX dX12_keeps_115 rfl ?_
                refine j_getR (q := 59) hX hG fl_X12_19 rfl rfl (by decide) dX12_keeps_116 ?_
                refine j_il2 hX dX12_keeps_119 ?_
                refine j_iald (n := 16) hX hG (by decide) (by omega) dX12_keeps_120 ?_
                refine j_iast (n := 2340) hX hG (by decide) (by omega) dX12_keeps_121 ?_
                refine j_inc2 hX dX12_keeps_122 rfl (by omega) ?_
                refine j_goto (tgt := 96) hX dX12_keeps_125 (by decide) ?_
                exact ih_96 _ _ (by omega) (fr_u hs4 (by decide)) (lt_stepI (fun j j0 j1 => by rw [up_n _ (by omega)]; exact hE9 j j0 j1) (by rw [up_s, hs4 59 m (by decide), hs3 59 m (by decide)]; exact wF.2 59 m (by decide) (by decide))) (fun j j1 => by rw [up_n _ (by omega)]; exact hF9 j j1) (by omega)
          exact lp_96 _ _ _ (by omega) fr_0 (fun j j0 j1 => by omega) (fun j _ => rfl) (Nat.lt_succ_self _)
        · skip
          refine j_al0 hX dX12_keeps_74 rfl ?_
          refine j_getR (q := 67) hX hG fl_X12_44 rfl rfl (by decide) dX12_keeps_75 ?_
          refine j_il1 hX dX12_keeps_78 ?_
          refine j_il2 hX dX12_keeps_79 ?_
          refine j_iadd hX dX12_keeps_80 (by omega) ?_
          refine j_al0 hX dX12_keeps_81 rfl ?_
          refine j_getR (q := 58) hX hG fl_X12_16 rfl rfl (by decide) dX12_keeps_82 ?_
          refine j_il2 hX dX12_keeps_85 ?_
          refine j_iald (n := 216) hX hG (by decide) (by omega) dX12_keeps_86 ?_
          refine j_iast (n := 2340) hX hG (by decide) (by omega) dX12_keeps_87 ?_
          refine j_inc2 hX dX12_keeps_88 rfl (by omega) ?_
          refine j_goto (tgt := 66) hX dX12_keeps_91 (by decide) ?_
          exact ih_66 _ _ (by omega) (fr_u hs3 (by decide)) (lt_stepI (fun j j0 j1 => by rw [up_n _ (by omega)]; exact hC9 j j0 j1) (by rw [up_s, hs3 58 e (by decide)]; exact wF.2 58 e (by decide) (by decide))) (fun j j1 => by rw [up_n _ (by omega)]; exact hD9 j j1) (by omega)
    exact lp_66 _ _ _ (by omega) fr_0 (fun j j0 j1 => by omega) (fun j _ => rfl) (Nat.lt_succ_self _)
  refine j_al0 hX dX12_keeps_0 rfl ?_
  refine j_getI hX hG fl_X12_155 (Or.inl rfl) (by decide) dX12_keeps_1 ?_
  refine j_bipush hX dX12_keeps_4 (by decide) ⟨by decide, by decide⟩ ?_
  refine j_icmp_ne (tgt := 55) hX dX12_keeps_6 (by decide) (fun h_6 => ?_) (fun h_6 => ?_)
  · skip
    exact jn_55 _ (by first | exact (if_neg h_6).symm | (rw [y21]; exact (if_pos h_6).symm)) (by first | exact fun j j0 j1 => (if_neg h_6).symm | exact fun j j0 j1 => (by rw [if_pos h_6]; exact hA9 j j0 (by unfold kpP at j1; rw [if_pos h_6] at j1; omega))) (by first | exact fK_0 | exact yK)
  · skip
    refine j_al0 hX dX12_keeps_9 rfl ?_
    refine j_dup hX dX12_keeps_10 rfl ?_
    refine j_getI hX hG fl_X12_155 (Or.inl rfl) (by decide) dX12_keeps_11 ?_
    refine j_iconst hX dX12_keeps_14 ⟨by decide, by decide⟩ ?_
    refine j_isub hX dX12_keeps_15 (by omega) ?_
    refine j_putI hX hG fp_X12_155 rfl (by decide) dX12_keeps_16 ?_
    refine j_iconst hX dX12_keeps_19 ⟨by decide, by decide⟩ ?_
    refine j_is1 hX dX12_keeps_20 rfl ?_
    have lp_21 : ∀ (f9 : Nat) (k : Int) (Y : VV), (0 ≤ k ∧ k ≤ 2106) → (Y 55 21 = 9) → (∀ j, 0 ≤ j → j < k → Y 67 j = V 67 (j + 234)) → (∀ j, k ≤ j → Y 67 j = V 67 j) → (fK V Y) → ((2106 - k).toNat) < f9 → J X G 21 [vA 55, vI k, vU] [] Y := by
      intro f9
      induction f9 with
      | zero => intro k Y _ _ _ _ _ hm; exact absurd hm (Nat.not_lt_zero _)
      | succ f9 ih_21 =>
        intro k Y hk y21 hA9 hB9 yK hm
        refine j_il1 hX dX12_keeps_21 ?_
        refine j_sipush hX dX12_keeps_22 (by decide) ⟨by decide, by decide⟩ ?_
        refine j_al0 hX dX12_keeps_25 rfl ?_
        refine j_getI hX hG fl_X12_155 (Or.inl rfl) (by decide) dX12_keeps_26 ?_
        refine j_eqS (st' := [vI 9, vI 234, vI k]) (by rw [y21]) ?_
        refine j_imul hX dX12_keeps_29 (by omega) ?_
        refine j_icmp_ge (tgt := 55) hX dX12_keeps_30 (by decide) (fun h_30 => ?_) (fun h_30 => ?_)
        · skip
          refine j_fg1 ?_
          exact jn_55 _ (by first | exact (if_neg h_6).symm | (rw [y21]; exact (if_pos h_6).symm)) (by first | exact fun j j0 j1 => (if_neg h_6).symm | exact fun j j0 j1 => (by rw [if_pos h_6]; exact hA9 j j0 (by unfold kpP at j1; rw [if_pos h_6] at j1; omega))) (by first | exact fK_0 | exact yK)
        · skip
          refine j_al0 hX dX12_keeps_33 rfl ?_
          refine j_getR (q := 67) hX hG fl_X12_44 rfl rfl (by decide) dX12_keeps_34 ?_
          refine j_il1 hX dX12_keeps_37 ?_
          refine j_al0 hX dX12_keeps_38 rfl ?_
          refine j_getR (q := 67) hX hG fl_X12_44 rfl rfl (by decide) dX12_keeps_39 ?_
          refine j_il1 hX dX12_keeps_42 ?_
          refine j_sipush hX dX12_keeps_43 (by decide) ⟨by decide, by decide⟩ ?_
          refine j_iadd hX dX12_keeps_46 (by omega) ?_
          refine j_iald (n := 2340) hX hG (by decide) (by omega) dX12_keeps_47 ?_
          refine j_iast (n := 2340) hX hG (by decide) (by omega) dX12_keeps_48 ?_
          refine j_inc1 hX dX12_keeps_49 rfl (by omega) ?_
          refine j_goto (tgt := 21) hX dX12_keeps_52 (by decide) ?_
          exact ih_21 _ _ (by omega) (by rw [up_n _ (by omega)]; exact y21) (lt_stepI (fun j j0 j1 => by rw [up_n _ (by omega)]; exact hA9 j j0 j1) (by rw [up_s]; exact hB9 _ (by omega))) (fun j j0 => by rw [up_n _ (by omega)]; exact hB9 j (by omega)) ⟨fun b hb => by rw [up_n _ (by omega)]; exact yK.1 b hb, fun a b ha hb => by rw [up_n _ (by omega)]; exact yK.2 a b ha hb⟩ (by omega)
    exact lp_21 _ _ _ (by omega) (by rw [up_s]; omega) (fun j j0 j1 => by omega) (fun j j0 => by rw [up_n _ (by omega)]) ⟨fun b hb => up_n _ (by omega), fun a b ha hb => up_n _ (by omega)⟩ (Nat.lt_succ_self _)
set_option maxHeartbeats 4000000 in
theorem ok_X12_set {V : VV} {k s : Int} (hmo : MO V) (hnm : 1 ≤ V 55 5 ∧ V 55 5 ≤ 16) (hpm : 0 ≤ V 55 21 ∧ V 55 21 ≤ 10) : Ok NA yX12_set cX12_set 4 (some .int) 2 43 [vA 55, vI k, vI s] V (pI (fun x9 V' => (((0 ≤ k ∧ k < V 55 5) ∧ 0 ≤ s ∧ s < V 55 1) ∧ x9 = V 59 k ∧ V' 55 0 = 0 ∧ KPS V V' ∧ (∀ j, V' 59 j = if j = k then s else V 59 j) ∧ (∀ b, b ≠ 0 → b ≠ 21 → V' 55 b = V 55 b) ∧ ∀ a b, a ≠ 55 → a ≠ 67 → a ≠ 59 → V' a b = V a b) ∨ (¬ ((0 ≤ k ∧ k < V 55 5) ∧ 0 ≤ s ∧ s < V 55 1) ∧ x9 = 0 ∧ V' = up (up V 55 0 0) 55 0 1))) := by
  refine Ok.intro (by decide +kernel) (Nat.le_of_ble_eq_true rfl) (fun X G hX hG hR hoa hoV => ?_)
  show J X G 0 [vA 55, vI k, vI s, vU] [] V
  have hb9 := hmo.b
  refine j_al0 hX dX12_set_0 rfl ?_
  refine j_iconst hX dX12_set_1 ⟨by decide, by decide⟩ ?_
  refine j_putI hX hG fp_X12_126 rfl (by decide) dX12_set_2 ?_
  obtain ⟨U, hU⟩ : ∃ U, U = up V 55 0 0 := ⟨_, rfl⟩
  rw [← hU]
  have u0 : U 55 0 = 0 := by rw [hU]; exact up_s ..
  have uF : ∀ b, b ≠ 0 → U 55 b = V 55 b := fun b hb => by rw [hU]; exact up_n _ (fun q => hb q.2)
  have uC : ∀ a b, a ≠ 55 → U a b = V a b := fun a b ha => by rw [hU]; exact up_n _ (fun q => ha q.1)
  have moU : MO U := hmo.t uF
  have u1 := uF 1 (by decide)
  have u5 := uF 5 (by decide)
  have u21 := uF 21 (by decide)
  have jn_27 : ∀ (z : Int), (z = if (0 ≤ k ∧ k < U 55 5) ∧ 0 ≤ s ∧ s < U 55 1 then 1 else 0) → J X G 27 [vA 55, vI k, vI s, vU] [vI z, vA 55] U := by
    intro z hs9
    refine j_iconst hX dX12_set_27 ⟨by decide, by decide⟩ ?_
    refine j_cVI2 (ci := 12) hX hG lk_X12_168 (ok_X12_may u0 (by decide)) (by decide) rfl (Nat.le_of_ble_eq_true rfl) (Nat.le_of_ble_eq_true rfl) (Nat.le_of_ble_eq_true rfl) rfl dX12_set_28 (fun x_28 V_28 h_28 => ?_)
    skip
    refine j_if_ne (tgt := 36) hX dX12_set_31 (by decide) (fun h_31 => ?_) (fun h_31 => ?_)
    · skip
      obtain ⟨c_28, -, w_28⟩ := h_28.elim id (fun q => absurd q.2.1 (by omega))
      have w2_28 := w_28.symm
      subst w2_28
      have c9 : (0 ≤ k ∧ k < U 55 5) ∧ 0 ≤ s ∧ s < U 55 1 := Classical.byContradiction fun y => c_28 (by rw [hs9, if_neg y])
      refine j_al0 hX dX12_set_36 rfl ?_
      refine j_cVV0 (ci := 12) hX hG lk_X12_328 (ok_X12_keeps moU (by omega) (by omega)) (by decide) rfl (Nat.le_of_ble_eq_true rfl) (Nat.le_of_ble_eq_true rfl) (Nat.le_of_ble_eq_true rfl) rfl dX12_set_37 (fun V_37 h_37 => ?_)
      obtain ⟨k_37, f_37⟩ := h_37
      refine j_al0 hX dX12_set_40 rfl ?_
      refine j_getR (q := 59) hX hG fl_X12_19 rfl rfl (by decide) dX12_set_41 ?_
      refine j_il1 hX dX12_set_44 ?_
      refine j_iald (n := 16) hX hG (by decide) (by omega) dX12_set_45 ?_
      refine j_is3 hX dX12_set_46 rfl ?_
      refine j_al0 hX dX12_set_47 rfl ?_
      refine j_getR (q := 59) hX hG fl_X12_19 rfl rfl (by decide) dX12_set_48 ?_
      refine j_il1 hX dX12_set_51 ?_
      refine j_il2 hX dX12_set_52 ?_
      refine j_iast (n := 16) hX hG (by decide) (by omega) dX12_set_53 ?_
      refine j_il3 hX dX12_set_54 ?_
      exact j_retI hR dX12_set_55 (by
      refine Or.inl ⟨by omega, (f_37.2 59 k (by decide) (by decide)).trans (uC 59 k (by decide)), ?_, (k_37.c uF uC).d (fun b => up_n _ (by omega)) (fun b => up_n _ (by omega)), fun j => ?_, fun b b0 b1 => ?_, fun a b a0 a1 a2 => ?_⟩
      · rw [up_n _ (by omega), f_37.1 0 (by decide)]; exact u0
      · by_cases y : j = k
        · rw [if_pos y, y, up_s]
        · rw [if_neg y, up_n _ (by omega), f_37.2 59 j (by decide) (by decide)]; exact uC 59 j (by decide)
      · rw [up_n _ (by omega), f_37.1 b b1]; exact uF b b0
      · rw [up_n _ (by omega), f_37.2 a b a0 a1]; exact uC a b a0)
    · skip
      obtain ⟨c_28, -, w_28⟩ := h_28.elim (fun q => absurd q.2.1 (by omega)) id
      refine j_iconst hX dX12_set_34 ⟨by decide, by decide⟩ ?_
      exact j_retI hR dX12_set_35 (Or.inr ⟨fun y => by rw [hs9, if_pos (by omega)] at c_28; exact absurd c_28 (by decide), rfl, by rw [w_28, hU]⟩)
  refine j_al0 hX dX12_set_5 rfl ?_
  refine j_al0 hX dX12_set_6 rfl ?_
  refine j_il1 hX dX12_set_7 ?_
  refine j_pVI1 (ci := 12) hX hG lk_X12_400 (ok_X12_isCell (by omega)) (by decide) rfl (Nat.le_of_ble_eq_true rfl) (Nat.le_of_ble_eq_true rfl) (Nat.le_of_ble_eq_true rfl) rfl dX12_set_8 ?_
  refine j_ifz_eq (tgt := 26) hX dX12_set_11 (by decide) (fun h_11 => ?_) (fun h_11 => ?_)
  · skip
    refine j_iconst hX dX12_set_26 ⟨by decide, by decide⟩ ?_
    exact jn_27 _ (by first | exact (if_pos ⟨h_11, h_19⟩).symm | exact (if_neg (fun z => h_11 z.1)).symm | exact (if_neg (fun z => h_19 z.2)).symm)
  · skip
    refine j_al0 hX dX12_set_14 rfl ?_
    refine j_il2 hX dX12_set_15 ?_
    refine j_pVI1 (ci := 12) hX hG lk_X12_290 (ok_X12_isState (by omega)) (by decide) rfl (Nat.le_of_ble_eq_true rfl) (Nat.le_of_ble_eq_true rfl) (Nat.le_of_ble_eq_true rfl) rfl dX12_set_16 ?_
    refine j_ifz_eq (tgt := 26) hX dX12_set_19 (by decide) (fun h_19 => ?_) (fun h_19 => ?_)
    · skip
      refine j_iconst hX dX12_set_26 ⟨by decide, by decide⟩ ?_
      exact jn_27 _ (by first | exact (if_pos ⟨h_11, h_19⟩).symm | exact (if_neg (fun z => h_11 z.1)).symm | exact (if_neg (fun z => h_19 z.2)).symm)
    · skip
      refine j_iconst hX dX12_set_22 ⟨by decide, by decide⟩ ?_
      refine j_goto (tgt := 27) hX dX12_set_23 (by decide) ?_
      exact jn_27 _ (by first | exact (if_pos ⟨h_11, h_19⟩).symm | exact (if_neg (fun z => h_11 z.1)).symm | exact (if_neg (fun z => h_19 z.2)).symm)
set_option maxHeartbeats 4000000 in
theorem ok_X12_codeNow {V : VV} (hmo : MO V) (hnm : 1 ≤ V 55 5 ∧ V 55 5 ≤ 16) (hrm : ∀ k, 0 ≤ k → k < V 55 5 → 0 ≤ V 59 k ∧ V 59 k < V 55 1) : Ok NA yX12_codeNow cX12_codeNow 4 (some .long) 0 0 [vA 55] V (pL (fun x9 V' => x9 = codeF (V 55 1) (V 59) (V 55 5).toNat ∧ V' = V)) := by
  refine Ok.intro (by decide +kernel) (Nat.le_of_ble_eq_true rfl) (fun X G hX hG hR hoa hoV => ?_)
  show J X G 0 [vA 55, vU, vU, vU] [] V
  have hb9 := hmo.b
  refine j_lconst (x := 0) hX dX12_codeNow_0 rfl ⟨by decide, by decide⟩ ?_
  refine j_ls1 hX dX12_codeNow_1 rfl ?_
  refine j_iconst hX dX12_codeNow_2 ⟨by decide, by decide⟩ ?_
  refine j_is3 hX dX12_codeNow_3 rfl ?_
  have lp_4 : ∀ (f9 : Nat) (c k : Int), (0 ≤ k ∧ k ≤ V 55 5) → (c = codeF (V 55 1) (V 59) k.toNat) → ((V 55 5 - k).toNat) < f9 → J X G 4 [vA 55, vL c, vU, vI k] [] V := by
    intro f9
    induction f9 with
    | zero => intro c k _ _ hm; exact absurd hm (Nat.not_lt_zero _)
    | succ f9 ih_4 =>
      intro c k hk hc hm
      refine j_il3 hX dX12_codeNow_4 ?_
      refine j_al0 hX dX12_codeNow_5 rfl ?_
      refine j_getI hX hG fl_X12_142 (Or.inl rfl) (by decide) dX12_codeNow_6 ?_
      refine j_icmp_ge (tgt := 34) hX dX12_codeNow_9 (by decide) (fun h_9 => ?_) (fun h_9 => ?_)
      · skip
        refine j_ll1 hX dX12_codeNow_34 ?_
        exact j_retL hR dX12_codeNow_35 ⟨by rw [hc, show k = V 55 5 by omega], rfl⟩
      · skip
        have cb := code_16 hb9.1 (R := V 59) (k := k) (by omega) (fun j j0 j1 => hrm j j0 (by omega))
        rw [← hc] at cb
        have rb := hrm k hk.1 (by omega)
        refine j_al0 hX dX12_codeNow_12 rfl ?_
        refine j_getI hX hG fl_X12_136 (Or.inl rfl) (by decide) dX12_codeNow_13 ?_
        refine j_i2l hX dX12_codeNow_16 ?_
        refine j_ll1 hX dX12_codeNow_17 ?_
        refine j_lmul hX dX12_codeNow_18 (by rw [Int.mul_comm]; omega) ?_
        refine j_al0 hX dX12_codeNow_19 rfl ?_
        refine j_getR (q := 59) hX hG fl_X12_19 rfl rfl (by decide) dX12_codeNow_20 ?_
        refine j_il3 hX dX12_codeNow_23 ?_
        refine j_iald (n := 16) hX hG (by decide) (by omega) dX12_codeNow_24 ?_
        refine j_i2l hX dX12_codeNow_25 ?_
        refine j_ladd hX dX12_codeNow_26 (by rw [Int.mul_comm]; omega) ?_
        refine j_ls1 hX dX12_codeNow_27 rfl ?_
        refine j_inc3 hX dX12_codeNow_28 rfl (by omega) ?_
        refine j_goto (tgt := 4) hX dX12_codeNow_31 (by decide) ?_
        exact ih_4 _ _ (by omega) (by rw [codeF_S hk.1, ← hc, Int.mul_comm]) (by omega)
  exact lp_4 _ _ _ (by omega) rfl (Nat.lt_succ_self _)
