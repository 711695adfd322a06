def MTB (V : VV) : Prop := 0 ≤ V 55 24 ∧ V 55 24 ≤ 500 ∧ ∀ p, 0 ≤ p → p < 500 → 0 ≤ V 68 p ∧ V 68 p ≤ 255
def TKM (V : VV) (s : Int) : Prop := 0 ≤ s ∧ s ≤ V 55 24 ∧ V 55 26 = s ∧ V 55 27 = sgK (V 68) (V 55 24) s ∧ V 55 25 = sgE (V 68) (V 55 24) s ∧ (V 55 27 = 2 → V 55 28 = sgN (V 68) (V 55 24) s)
theorem tk_fin {V F : VV} {s : Int} (h0 : 0 ≤ s ∧ s ≤ V 55 24) (f26 : F 55 26 = s) (f25 : F 55 25 = sgE (V 68) (V 55 24) s) (f27 : F 55 27 = sgK (V 68) (V 55 24) s) (f28 : F 55 27 = 2 → F 55 28 = sgN (V 68) (V 55 24) s) (b28 : 0 ≤ F 55 28 ∧ F 55 28 ≤ 99)
    (fO : ∀ b, b ≠ 25 → b ≠ 26 → b ≠ 27 → b ≠ 28 → F 55 b = V 55 b) (fC : ∀ a b, a ≠ 55 → F a b = V a b) : TKM F s ∧ (0 ≤ F 55 28 ∧ F 55 28 ≤ 99) ∧ (∀ b, b ≠ 25 → b ≠ 26 → b ≠ 27 → b ≠ 28 → F 55 b = V 55 b) ∧ ∀ a b, a ≠ 55 → F a b = V a b := by
  have e24 : F 55 24 = V 55 24 := fO 24 (by decide) (by decide) (by decide) (by decide)
  have e68 : F 68 = V 68 := funext fun b => fC 68 b (by decide)
  refine ⟨?_, b28, fO, fC⟩
  unfold TKM
  rw [e24, e68]
  exact ⟨h0.1, h0.2, f26, f27, f25, f28⟩
def nmF (T : Int → Int) (p k : Int) : Int := if k = 0 then 0 else if k = 1 then T p - 48 else 10 * (T p - 48) + T (p + 1) - 48
theorem nm_1 {T : Int → Int} {p e : Int} (h0 : p ≤ e) (h : e - p < 2) : 10 * nmF T p (e - p) + T e - 48 = nmF T p (e + 1 - p) := by
  unfold nmF
  rcases (by omega : e = p ∨ e = p + 1) with r | r
  · rw [if_pos (by omega), if_neg (by omega), if_pos (by omega), r]; omega
  · rw [if_neg (by omega), if_pos (by omega), if_neg (by omega), if_neg (by omega), r]
theorem nm_2 {T : Int → Int} {p e : Int} (h : 2 ≤ e - p) : nmF T p (e - p) = nmF T p (e + 1 - p) := by
  unfold nmF
  rw [if_neg (by omega), if_neg (by omega), if_neg (by omega), if_neg (by omega)]
theorem nm_3 {T : Int → Int} {p e : Int} (h : p < e) : nmF T p (e - p) = if 1 < e - p then 10 * (T p - 48) + T (p + 1) - 48 else T p - 48 := by
  unfold nmF
  rw [if_neg (by omega)]
  by_cases q : e - p = 1
  · rw [if_pos q, if_neg (by omega)]
  · rw [if_neg q, if_pos (by omega)]
set_option maxHeartbeats 4000000 in
theorem ok_X12_token {V : VV} (hmt : MTB V) (h25 : 0 ≤ V 55 25 ∧ V 55 25 ≤ V 55 24) (h28 : 0 ≤ V 55 28 ∧ V 55 28 ≤ 99) : Ok NA yX12_token cX12_token 2 none 1 21 [vA 55] V (pV (fun V' => TKM V' (sgS (V 68) (V 55 24) (V 55 25)) ∧ (0 ≤ V' 55 28 ∧ V' 55 28 ≤ 99) ∧ (∀ b, b ≠ 25 → b ≠ 26 → b ≠ 27 → b ≠ 28 → V' 55 b = V 55 b) ∧ ∀ a b, a ≠ 55 → V' a b = V a b)) := by
  refine Ok.intro (by decide +kernel) (Nat.le_of_ble_eq_true rfl) (fun X G hX hG hR hoa hoV => ?_)
  show J X G 0 [vA 55, vU] [] V
  have hm0 := hmt.1
  have hm1 := hmt.2.1
  have lp_0 : ∀ (f9 : Nat) (p : Int) (Y : VV), (0 ≤ p ∧ p ≤ V 55 24) → (rT (blB (V 68)) (V 55 24) (V 55 25) = rT (blB (V 68)) (V 55 24) p) → (Y 55 25 = p) → (∀ b, b ≠ 25 → Y 55 b = V 55 b) → (∀ a b, a ≠ 55 → Y a b = V a b) → ((V 55 24 - p).toNat) < f9 → J X G 0 [vA 55, vU] [] Y := by
    intro f9
    induction f9 with
    | zero => intro p Y _ _ _ _ _ hm; exact absurd hm (Nat.not_lt_zero _)
    | succ f9 ih_0 =>
      intro p Y hp hr y25 yF yC hm
      obtain ⟨c, hc, hc1, hc2⟩ : ∃ c, (if p < V 55 24 then V 68 (p) else -1) = c ∧ (p < V 55 24 → c = V 68 (p)) ∧ (¬ p < V 55 24 → c = -1) := ⟨_, rfl, fun h => if_pos h, fun h => if_neg h⟩
      have y24 : Y 55 24 = V 55 24 := yF 24 (by decide)
      have y68 : Y 68 = V 68 := funext fun b => yC 68 b (by decide)
      refine j_al0 hX dX12_token_0 rfl ?_
      refine j_al0 hX dX12_token_1 rfl ?_
      refine j_getI hX hG fl_X12_179 (Or.inl rfl) (by decide) dX12_token_2 ?_
      refine j_pVI1 (ci := 12) hX hG lk_X12_182 (ok_X12_at (by omega) (by omega)) (by decide) rfl (Nat.le_of_ble_eq_true rfl) (Nat.le_of_ble_eq_true rfl) (Nat.le_of_ble_eq_true rfl) rfl dX12_token_5 ?_
      refine j_eqS (st' := [vI c]) (by rw [y25, y24, y68, hc]) ?_
      refine j_bipush hX dX12_token_8 (by decide) ⟨by decide, by decide⟩ ?_
      refine j_icmp_eq (tgt := 26) hX dX12_token_10 (by decide) (fun h_10 => ?_) (fun h_10 => ?_)
      · skip
        have pl : p < V 55 24 := Classical.byContradiction fun z => (by have := hc2 z; omega)
        have hcv := hc1 pl
        refine j_al0 hX dX12_token_26 rfl ?_
        refine j_dup hX dX12_token_27 rfl ?_
        refine j_getI hX hG fl_X12_179 (Or.inl rfl) (by decide) dX12_token_28 ?_
        refine j_iconst hX dX12_token_31 ⟨by decide, by decide⟩ ?_
        refine j_iadd hX dX12_token_32 (by omega) ?_
        refine j_putI hX hG fp_X12_179 rfl (by decide) dX12_token_33 ?_
        refine j_goto (tgt := 0) hX dX12_token_36 (by decide) ?_
        exact ih_0 (p + 1) _ (by omega) (by rw [hr]; exact rT_go pl (decide_eq_true (by omega))) (by rw [up_s, y25]) (fun b hb => by rw [up_n _ (by omega)]; exact yF b hb) (fun a b ha => by rw [up_n _ (by omega)]; exact yC a b ha) (by omega)
      · skip
        refine j_al0 hX dX12_token_13 rfl ?_
        refine j_al0 hX dX12_token_14 rfl ?_
        refine j_getI hX hG fl_X12_179 (Or.inl rfl) (by decide) dX12_token_15 ?_
        refine j_pVI1 (ci := 12) hX hG lk_X12_182 (ok_X12_at (by omega) (by omega)) (by decide) rfl (Nat.le_of_ble_eq_true rfl) (Nat.le_of_ble_eq_true rfl) (Nat.le_of_ble_eq_true rfl) rfl dX12_token_18 ?_
        refine j_eqS (st' := [vI c]) (by rw [y25, y24, y68, hc]) ?_
        refine j_bipush hX dX12_token_21 (by decide) ⟨by decide, by decide⟩ ?_
        refine j_icmp_ne (tgt := 39) hX dX12_token_23 (by decide) (fun h_23 => ?_) (fun h_23 => ?_)
        · skip
          have hS : p = sgS (V 68) (V 55 24) (V 55 25) := by
            unfold sgS
            rw [hr]
            refine (rT_no ?_).symm
            by_cases pl : p < V 55 24
            · have := hc1 pl
              exact Or.inr (decide_eq_false (by omega))
            · exact Or.inl (by omega)
          refine j_al0 hX dX12_token_39 rfl ?_
          refine j_al0 hX dX12_token_40 rfl ?_
          refine j_getI hX hG fl_X12_179 (Or.inl rfl) (by decide) dX12_token_41 ?_
          refine j_putI hX hG fp_X12_185 rfl (by decide) dX12_token_44 ?_
          generalize hW : up _ 55 26 _ = W
          have w25 : W 55 25 = p := by rw [← hW, up_n _ (by decide)]; exact y25
          have w26 : W 55 26 = p := by rw [← hW, up_s]; exact y25
          have w24 : W 55 24 = V 55 24 := by rw [← hW, up_n _ (by decide)]; exact y24
          have w28 : W 55 28 = V 55 28 := by rw [← hW, up_n _ (by decide)]; exact yF 28 (by decide)
          have w68 : W 68 = V 68 := by rw [← hW, up_r _ (by decide)]; exact y68
          have oF : ∀ b, b ≠ 25 → b ≠ 26 → b ≠ 27 → b ≠ 28 → W 55 b = V 55 b := fun b k0 k1 _ _ => by rw [← hW, up_n _ (by omega)]; exact yF b k0
          have oC : ∀ a b, a ≠ 55 → W a b = V a b := fun a b ha => by rw [← hW, up_n _ (by omega)]; exact yC a b ha
          clear hW
          refine j_al0 hX dX12_token_47 rfl ?_
          refine j_al0 hX dX12_token_48 rfl ?_
          refine j_getI hX hG fl_X12_179 (Or.inl rfl) (by decide) dX12_token_49 ?_
          refine j_pVI1 (ci := 12) hX hG lk_X12_182 (ok_X12_at (by omega) (by omega)) (by decide) rfl (Nat.le_of_ble_eq_true rfl) (Nat.le_of_ble_eq_true rfl) (Nat.le_of_ble_eq_true rfl) rfl dX12_token_52 ?_
          refine j_eqS (st' := [vI c]) (by rw [w25, w24, w68, hc]) ?_
          refine j_is1 hX dX12_token_55 rfl ?_
          refine j_il1 hX dX12_token_56 ?_
          refine j_iconst hX dX12_token_57 ⟨by decide, by decide⟩ ?_
          refine j_icmp_ne (tgt := 69) hX dX12_token_58 (by decide) (fun h_58 => ?_) (fun h_58 => ?_)
          · skip
            refine j_il1 hX dX12_token_69 ?_
            refine j_pSI1 hX hG lk_X12_191 (ok_X12_isLetter ) (Nat.le_of_ble_eq_true rfl) (Nat.le_of_ble_eq_true rfl) (Nat.le_of_ble_eq_true rfl) rfl dX12_token_70 ?_
            refine j_ifz_eq (tgt := 111) hX dX12_token_73 (by decide) (fun h_73 => ?_) (fun h_73 => ?_)
            · skip
              refine j_il1 hX dX12_token_111 ?_
              refine j_pSI1 hX hG lk_X12_195 (ok_X12_isDigit ) (Nat.le_of_ble_eq_true rfl) (Nat.le_of_ble_eq_true rfl) (Nat.le_of_ble_eq_true rfl) rfl dX12_token_112 ?_
              refine j_ifz_eq (tgt := 211) hX dX12_token_115 (by decide) (fun h_115 => ?_) (fun h_115 => ?_)
              · skip
                refine j_al0 hX dX12_token_211 rfl ?_
                refine j_dup hX dX12_token_212 rfl ?_
                refine j_getI hX hG fl_X12_179 (Or.inl rfl) (by decide) dX12_token_213 ?_
                refine j_iconst hX dX12_token_216 ⟨by decide, by decide⟩ ?_
                refine j_iadd hX dX12_token_217 (by omega) ?_
                refine j_putI hX hG fp_X12_179 rfl (by decide) dX12_token_218 ?_
                refine j_al0 hX dX12_token_221 rfl ?_
                refine j_il1 hX dX12_token_222 ?_
                refine j_bipush hX dX12_token_223 (by decide) ⟨by decide, by decide⟩ ?_
                refine j_icmp_eq (tgt := 246) hX dX12_token_225 (by decide) (fun h_225 => ?_) (fun h_225 => ?_)
                · skip
                  refine j_iconst hX dX12_token_246 ⟨by decide, by decide⟩ ?_
                  refine j_goto (tgt := 251) hX dX12_token_247 (by decide) ?_
                  refine j_putI hX hG fp_X12_188 rfl (by decide) dX12_token_251 ?_
                  exact j_ret hR dX12_token_254 (by
        rw [← hS]
        first
        | (have hL : V 55 24 ≤ p := Classical.byContradiction fun z => (by have z1 := hc1 (by omega); have z2 := hmt.2.2 p hp.1 (by omega); omega)
           exact tk_fin hp (by rw [up_n _ (by decide)]; exact w26) (by rw [up_n _ (by decide), w25]; unfold sgE; rw [if_pos hL]) (by rw [up_s]; unfold sgK; rw [if_pos hL]) (fun z => by rw [up_s] at z; omega) (by rw [up_n _ (by decide), w28]; exact h28) (fun b k0 k1 k2 k3 => by rw [up_n _ (by omega)]; exact oF b k0 k1 k2 k3) (fun a b ha => by rw [up_n _ (by omega)]; exact oC a b ha))
        | (have hL : p < V 55 24 := Classical.byContradiction fun z => (by have := hc2 z; omega)
           have hcv := hc1 hL
           have eE : e = sgE (V 68) (V 55 24) p := by
             unfold sgE
             rw [if_neg (by omega), if_pos (by omega), hr2]
             refine (rT_no ?_).symm
             by_cases pl : e < V 55 24
             · have := hd1 pl
               exact Or.inr (decide_eq_false (by omega))
             · exact Or.inl (by omega)
           exact tk_fin hp (by rw [up_n _ (by decide), zF 26 (by decide)]; exact w26) (by rw [up_n _ (by decide), z25]; exact eE) (by rw [up_s]; unfold sgK; rw [if_neg (by omega), if_pos (by omega)]) (fun z => by rw [up_s] at z; omega) (by rw [up_n _ (by decide), zF 28 (by decide), w28]; exact h28) (fun b k0 k1 k2 k3 => by rw [up_n _ (by omega), zF b k0]; exact oF b k0 k1 k2 k3) (fun a b ha => by rw [up_n _ (by omega), zC a b ha]; exact oC a b ha))
        | (have hL : p < V 55 24 := Classical.byContradiction fun z => (by have := hc2 z; omega)
           have hcv := hc1 hL
           have eE : e = sgE (V 68) (V 55 24) p := by
             unfold sgE
             rw [if_neg (by omega), if_neg (by omega), if_pos (by omega), hr2]
             refine (rT_no ?_).symm
             by_cases pl : e < V 55 24
             · have := hd1 pl
               exact Or.inr (decide_eq_false (by omega))
             · exact Or.inl (by omega)
           have gE : p < e := by
             have := rT_lt (P := inB 48 57 (V 68)) hL (decide_eq_true (by omega))
             have e2 : rT (inB 48 57 (V 68)) (V 55 24) p = e := by
               rw [eE]; unfold sgE
               rw [if_neg (by omega), if_neg (by omega), if_pos (by omega)]
             omega
           exact tk_fin hp (by rw [up_n _ (by decide)]; exact z26) (by rw [up_n _ (by decide), z25]; exact eE) (by rw [up_s]; unfold sgK; rw [if_neg (by omega), if_neg (by omega), if_pos (by omega), ← eE]; first | rw [if_pos (by omega)] | rw [if_neg (by omega)]) (fun z => by rw [up_n _ (by decide), zN]; unfold sgN; rw [← eE]; exact nm_3 (by omega)) (by rw [up_n _ (by decide)]; omega) (fun b k0 k1 k2 k3 => by rw [up_n _ (by omega), zF b k0 k3]; exact oF b k0 k1 k2 k3) (fun a b ha => by rw [up_n _ (by omega), zC a b ha]; exact oC a b ha))
        | (have hL : p < V 55 24 := Classical.byContradiction fun z => (by have := hc2 z; omega)
           have hcv := hc1 hL
           exact tk_fin hp (by rw [up_n _ (by decide), up_n _ (by decide)]; exact w26) (by rw [up_n _ (by decide), up_s, w25]; unfold sgE; rw [if_neg (by omega), if_neg (by omega), if_neg (by omega)]) (by rw [up_s]; unfold sgK; rw [if_neg (by omega), if_neg (by omega), if_neg (by omega)]; first | rw [if_pos (by omega)] | rw [if_neg (by omega)]) (fun z => by rw [up_s] at z; omega) (by rw [up_n _ (by decide), up_n _ (by decide), w28]; exact h28) (fun b k0 k1 k2 k3 => by rw [up_n _ (by omega), up_n _ (by omega)]; exact oF b k0 k1 k2 k3) (fun a b ha => by rw [up_n _ (by omega), up_n _ (by omega)]; exact oC a b ha)))
                · skip
                  refine j_il1 hX dX12_token_228 ?_
                  refine j_bipush hX dX12_token_229 (by decide) ⟨by decide, by decide⟩ ?_
                  refine j_icmp_eq (tgt := 246) hX dX12_token_231 (by decide) (fun h_231 => ?_) (fun h_231 => ?_)
                  · skip
                    refine j_iconst hX dX12_token_246 ⟨by decide, by decide⟩ ?_
                    refine j_goto (tgt := 251) hX dX12_token_247 (by decide) ?_
                    refine j_putI hX hG fp_X12_188 rfl (by decide) dX12_token_251 ?_
                    exact j_ret hR dX12_token_254 (by
        rw [← hS]
        first
        | (have hL : V 55 24 ≤ p := Classical.byContradiction fun z => (by have z1 := hc1 (by omega); have z2 := hmt.2.2 p hp.1 (by omega); omega)
           exact tk_fin hp (by rw [up_n _ (by decide)]; exact w26) (by rw [up_n _ (by decide), w25]; unfold sgE; rw [if_pos hL]) (by rw [up_s]; unfold sgK; rw [if_pos hL]) (fun z => by rw [up_s] at z; omega) (by rw [up_n _ (by decide), w28]; exact h28) (fun b k0 k1 k2 k3 => by rw [up_n _ (by omega)]; exact oF b k0 k1 k2 k3) (fun a b ha => by rw [up_n _ (by omega)]; exact oC a b ha))
        | (have hL : p < V 55 24 := Classical.byContradiction fun z => (by have := hc2 z; omega)
           have hcv := hc1 hL
           have eE : e = sgE (V 68) (V 55 24) p := by
             unfold sgE
             rw [if_neg (by omega), if_pos (by omega), hr2]
             refine (rT_no ?_).symm
             by_cases pl : e < V 55 24
             · have := hd1 pl
               exact Or.inr (decide_eq_false (by omega))
             · exact Or.inl (by omega)
           exact tk_fin hp (by rw [up_n _ (by decide), zF 26 (by decide)]; exact w26) (by rw [up_n _ (by decide), z25]; exact eE) (by rw [up_s]; unfold sgK; rw [if_neg (by omega), if_pos (by omega)]) (fun z => by rw [up_s] at z; omega) (by rw [up_n _ (by decide), zF 28 (by decide), w28]; exact h28) (fun b k0 k1 k2 k3 => by rw [up_n _ (by omega), zF b k0]; exact oF b k0 k1 k2 k3) (fun a b ha => by rw [up_n _ (by omega), zC a b ha]; exact oC a b ha))
        | (have hL : p < V 55 24 := Classical.byContradiction fun z => (by have := hc2 z; omega)
           have hcv := hc1 hL
           have eE : e = sgE (V 68) (V 55 24) p := by
             unfold sgE
             rw [if_neg (by omega), if_neg (by omega), if_pos (by omega), hr2]
             refine (rT_no ?_).symm
             by_cases pl : e < V 55 24
             · have := hd1 pl
               exact Or.inr (decide_eq_false (by omega))
             · exact Or.inl (by omega)
           have gE : p < e := by
             have := rT_lt (P := inB 48 57 (V 68)) hL (decide_eq_true (by omega))
             have e2 : rT (inB 48 57 (V 68)) (V 55 24) p = e := by
               rw [eE]; unfold sgE
               rw [if_neg (by omega), if_neg (by omega), if_pos (by omega)]
             omega
           exact tk_fin hp (by rw [up_n _ (by decide)]; exact z26) (by rw [up_n _ (by decide), z25]; exact eE) (by rw [up_s]; unfold sgK; rw [if_neg (by omega), if_neg (by omega), if_pos (by omega), ← eE]; first | rw [if_pos (by omega)] | rw [if_neg (by omega)]) (fun z => by rw [up_n _ (by decide), zN]; unfold sgN; rw [← eE]; exact nm_3 (by omega)) (by rw [up_n _ (by decide)]; omega) (fun b k0 k1 k2 k3 => by rw [up_n _ (by omega), zF b k0 k3]; exact oF b k0 k1 k2 k3) (fun a b ha => by rw [up_n _ (by omega), zC a b ha]; exact oC a b ha))
        | (have hL : p < V 55 24 := Classical.byContradiction fun z => (by have := hc2 z; omega)
           have hcv := hc1 hL
           exact tk_fin hp (by rw [up_n _ (by decide), up_n _ (by decide)]; exact w26) (by rw [up_n _ (by decide), up_s, w25]; unfold sgE; rw [if_neg (by omega), if_neg (by omega), if_neg (by omega)]) (by rw [up_s]; unfold sgK; rw [if_neg (by omega), if_neg (by omega), if_neg (by omega)]; first | rw [if_pos (by omega)] | rw [if_neg (by omega)]) (fun z => by rw [up_s] at z; omega) (by rw [up_n _ (by decide), up_n _ (by decide), w28]; exact h28) (fun b k0 k1 k2 k3 => by rw [up_n _ (by omega), up_n _ (by omega)]; exact oF b k0 k1 k2 k3) (fun a b ha => by rw [up_n _ (by omega), up_n _ (by omega)]; exact oC a b ha)))
                  · skip
                    refine j_il1 hX dX12_token_234 ?_
                    refine j_bipush hX dX12_token_235 (by decide) ⟨by decide, by decide⟩ ?_
                    refine j_icmp_eq (tgt := 246) hX dX12_token_237 (by decide) (fun h_237 => ?_) (fun h_237 => ?_)
                    · skip
                      refine j_iconst hX dX12_token_246 ⟨by decide, by decide⟩ ?_
                      refine j_goto (tgt := 251) hX dX12_token_247 (by decide) ?_
                      refine j_putI hX hG fp_X12_188 rfl (by decide) dX12_token_251 ?_
                      exact j_ret hR dX12_token_254 (by
        rw [← hS]
        first
        | (have hL : V 55 24 ≤ p := Classical.byContradiction fun z => (by have z1 := hc1 (by omega); have z2 := hmt.2.2 p hp.1 (by omega); omega)
           exact tk_fin hp (by rw [up_n _ (by decide)]; exact w26) (by rw [up_n _ (by decide), w25]; unfold sgE; rw [if_pos hL]) (by rw [up_s]; unfold sgK; rw [if_pos hL]) (fun z => by rw [up_s] at z; omega) (by rw [up_n _ (by decide), w28]; exact h28) (fun b k0 k1 k2 k3 => by rw [up_n _ (by omega)]; exact oF b k0 k1 k2 k3) (fun a b ha => by rw [up_n _ (by omega)]; exact oC a b ha))
        | (have hL : p < V 55 24 := Classical.byContradiction fun z => (by have := hc2 z; omega)
           have hcv := hc1 hL
           have eE : e = sgE (V 68) (V 55 24) p := by
             unfold sgE
             rw [if_neg (by omega), if_pos (by omega), hr2]
             refine (rT_no ?_).symm
             by_cases pl : e < V 55 24
             · have := hd1 pl
               exact Or.inr (decide_eq_false (by omega))
             · exact Or.inl (by omega)
           exact tk_fin hp (by rw [up_n _ (by decide), zF 26 (by decide)]; exact w26) (by rw [up_n _ (by decide), z25]; exact eE) (by rw [up_s]; unfold sgK; rw [if_neg (by omega), if_pos (by omega)]) (fun z => by rw [up_s] at z; omega) (by rw [up_n _ (by decide), zF 28 (by decide), w28]; exact h28) (fun b k0 k1 k2 k3 => by rw [up_n _ (by omega), zF b k0]; exact oF b k0 k1 k2 k3) (fun a b ha => by rw [up_n _ (by omega), zC a b ha]; exact oC a b ha))
        | (have hL : p < V 55 24 := Classical.byContradiction fun z => (by have := hc2 z; omega)
           have hcv := hc1 hL
           have eE : e = sgE (V 68) (V 55 24) p := by
             unfold sgE
             rw [if_neg (by omega), if_neg (by omega), if_pos (by omega), hr2]
             refine (rT_no ?_).symm
             by_cases pl : e < V 55 24
             · have := hd1 pl
               exact Or.inr (decide_eq_false (by omega))
             · exact Or.inl (by omega)
           have gE : p < e := by
             have := rT_lt (P := inB 48 57 (V 68)) hL (decide_eq_true (by omega))
             have e2 : rT (inB 48 57 (V 68)) (V 55 24) p = e := by
               rw [eE]; unfold sgE
               rw [if_neg (by omega), if_neg (by omega), if_pos (by omega)]
             omega
           exact tk_fin hp (by rw [up_n _ (by decide)]; exact z26) (by rw [up_n _ (by decide), z25]; exact eE) (by rw [up_s]; unfold sgK; rw [if_neg (by omega), if_neg (by omega), if_pos (by omega), ← eE]; first | rw [if_pos (by omega)] | rw [if_neg (by omega)]) (fun z => by rw [up_n _ (by decide), zN]; unfold sgN; rw [← eE]; exact nm_3 (by omega)) (by rw [up_n _ (by decide)]; omega) (fun b k0 k1 k2 k3 => by rw [up_n _ (by omega), zF b k0 k3]; exact oF b k0 k1 k2 k3) (fun a b ha => by rw [up_n _ (by omega), zC a b ha]; exact oC a b ha))
        | (have hL : p < V 55 24 := Classical.byContradiction fun z => (by have := hc2 z; omega)
           have hcv := hc1 hL
           exact tk_fin hp (by rw [up_n _ (by decide), up_n _ (by decide)]; exact w26) (by rw [up_n _ (by decide), up_s, w25]; unfold sgE; rw [if_neg (by omega), if_neg (by omega), if_neg (by omega)]) (by rw [up_s]; unfold sgK; rw [if_neg (by omega), if_neg (by omega), if_neg (by omega)]; first | rw [if_pos (by omega)] | rw [if_neg (by omega)]) (fun z => by rw [up_s] at z; omega) (by rw [up_n _ (by decide), up_n _ (by decide), w28]; exact h28) (fun b k0 k1 k2 k3 => by rw [up_n _ (by omega), up_n _ (by omega)]; exact oF b k0 k1 k2 k3) (fun a b ha => by rw [up_n _ (by omega), up_n _ (by omega)]; exact oC a b ha)))
                    · skip
                      refine j_il1 hX dX12_token_240 ?_
                      refine j_bipush hX dX12_token_241 (by decide) ⟨by decide, by decide⟩ ?_
                      refine j_icmp_ne (tgt := 250) hX dX12_token_243 (by decide) (fun h_243 => ?_) (fun h_243 => ?_)
                      · skip
                        refine j_iconst hX dX12_token_250 ⟨by decide, by decide⟩ ?_
                        refine j_putI hX hG fp_X12_188 rfl (by decide) dX12_token_251 ?_
                        exact j_ret hR dX12_token_254 (by
        rw [← hS]
        first
        | (have hL : V 55 24 ≤ p := Classical.byContradiction fun z => (by have z1 := hc1 (by omega); have z2 := hmt.2.2 p hp.1 (by omega); omega)
           exact tk_fin hp (by rw [up_n _ (by decide)]; exact w26) (by rw [up_n _ (by decide), w25]; unfold sgE; rw [if_pos hL]) (by rw [up_s]; unfold sgK; rw [if_pos hL]) (fun z => by rw [up_s] at z; omega) (by rw [up_n _ (by decide), w28]; exact h28) (fun b k0 k1 k2 k3 => by rw [up_n _ (by omega)]; exact oF b k0 k1 k2 k3) (fun a b ha => by rw [up_n _ (by omega)]; exact oC a b ha))
        | (have hL : p < V 55 24 := Classical.byContradiction fun z => (by have := hc2 z; omega)
           have hcv := hc1 hL
           have eE : e = sgE (V 68) (V 55 24) p := by
             unfold sgE
             rw [if_neg (by omega), if_pos (by omega), hr2]
             refine (rT_no ?_).symm
             by_cases pl : e < V 55 24
             · have := hd1 pl
               exact Or.inr (decide_eq_false (by omega))
             · exact Or.inl (by omega)
           exact tk_fin hp (by rw [up_n _ (by decide), zF 26 (by decide)]; exact w26) (by rw [up_n _ (by decide), z25]; exact eE) (by rw [up_s]; unfold sgK; rw [if_neg (by omega), if_pos (by omega)]) (fun z => by rw [up_s] at z; omega) (by rw [up_n _ (by decide), zF 28 (by decide), w28]; exact h28) (fun b k0 k1 k2 k3 => by rw [up_n _ (by omega), zF b k0]; exact oF b k0 k1 k2 k3) (fun a b ha => by rw [up_n _ (by omega), zC a b ha]; exact oC a b ha))
        | (have hL : p < V 55 24 := Classical.byContradiction fun z => (by have := hc2 z; omega)
           have hcv := hc1 hL
           have eE : e = sgE (V 68) (V 55 24) p := by
             unfold sgE
             rw [if_neg (by omega), if_neg (by omega), if_pos (by omega), hr2]
             refine (rT_no ?_).symm
             by_cases pl : e < V 55 24
             · have := hd1 pl
               exact Or.inr (decide_eq_false (by omega))
             · exact Or.inl (by omega)
           have gE : p < e := by
             have := rT_lt (P := inB 48 57 (V 68)) hL (decide_eq_true (by omega))
             have e2 : rT (inB 48 57 (V 68)) (V 55 24) p = e := by
               rw [eE]; unfold sgE
               rw [if_neg (by omega), if_neg (by omega), if_pos (by omega)]
             omega
           exact tk_fin hp (by rw [up_n _ (by decide)]; exact z26) (by rw [up_n _ (by decide), z25]; exact eE) (by rw [up_s]; unfold sgK; rw [if_neg (by omega), if_neg (by omega), if_pos (by omega), ← eE]; first | rw [if_pos (by omega)] | rw [if_neg (by omega)]) (fun z => by rw [up_n _ (by decide), zN]; unfold sgN; rw [← eE]; exact nm_3 (by omega)) (by rw [up_n _ (by decide)]; omega) (fun b k0 k1 k2 k3 => by rw [up_n _ (by omega), zF b k0 k3]; exact oF b k0 k1 k2 k3) (fun a b ha => by rw [up_n _ (by omega), zC a b ha]; exact oC a b ha))
        | (have hL : p < V 55 24 := Classical.byContradiction fun z => (by have := hc2 z; omega)
           have hcv := hc1 hL
           exact tk_fin hp (by rw [up_n _ (by decide), up_n _ (by decide)]; exact w26) (by rw [up_n _ (by decide), up_s, w25]; unfold sgE; rw [if_neg (by omega), if_neg (by omega), if_neg (by omega)]) (by rw [up_s]; unfold sgK; rw [if_neg (by omega), if_neg (by omega), if_neg (by omega)]; first | rw [if_pos (by omega)] | rw [if_neg (by omega)]) (fun z => by rw [up_s] at z; omega) (by rw [up_n _ (by decide), up_n _ (by decide), w28]; exact h28) (fun b k0 k1 k2 k3 => by rw [up_n _ (by omega), up_n _ (by omega)]; exact oF b k0 k1 k2 k3) (fun a b ha => by rw [up_n _ (by omega), up_n _ (by omega)]; exact oC a b ha)))
                      · skip
                        refine j_iconst hX dX12_token_246 ⟨by decide, by decide⟩ ?_
                        refine j_goto (tgt := 251) hX dX12_token_247 (by decide) ?_
                        refine j_putI hX hG fp_X12_188 rfl (by decide) dX12_token_251 ?_
                        exact j_ret hR dX12_token_254 (by
        rw [← hS]
        first
        | (have hL : V 55 24 ≤ p := Classical.byContradiction fun z => (by have z1 := hc1 (by omega); have z2 := hmt.2.2 p hp.1 (by omega); omega)
           exact tk_fin hp (by rw [up_n _ (by decide)]; exact w26) (by rw [up_n _ (by decide), w25]; unfold sgE; rw [if_pos hL]) (by rw [up_s]; unfold sgK; rw [if_pos hL]) (fun z => by rw [up_s] at z; omega) (by rw [up_n _ (by decide), w28]; exact h28) (fun b k0 k1 k2 k3 => by rw [up_n _ (by omega)]; exact oF b k0 k1 k2 k3) (fun a b ha => by rw [up_n _ (by omega)]; exact oC a b ha))
        | (have hL : p < V 55 24 := Classical.byContradiction fun z => (by have := hc2 z; omega)
           have hcv := hc1 hL
           have eE : e = sgE (V 68) (V 55 24) p := by
             unfold sgE
             rw [if_neg (by omega), if_pos (by omega), hr2]
             refine (rT_no ?_).symm
             by_cases pl : e < V 55 24
             · have := hd1 pl
               exact Or.inr (decide_eq_false (by omega))
             · exact Or.inl (by omega)
           exact tk_fin hp (by rw [up_n _ (by decide), zF 26 (by decide)]; exact w26) (by rw [up_n _ (by decide), z25]; exact eE) (by rw [up_s]; unfold sgK; rw [if_neg (by omega), if_pos (by omega)]) (fun z => by rw [up_s] at z; omega) (by rw [up_n _ (by decide), zF 28 (by decide), w28]; exact h28) (fun b k0 k1 k2 k3 => by rw [up_n _ (by omega), zF b k0]; exact oF b k0 k1 k2 k3) (fun a b ha => by rw [up_n _ (by omega), zC a b ha]; exact oC a b ha))
        | (have hL : p < V 55 24 := Classical.byContradiction fun z => (by have := hc2 z; omega)
           have hcv := hc1 hL
           have eE : e = sgE (V 68) (V 55 24) p := by
             unfold sgE
             rw [if_neg (by omega), if_neg (by omega), if_pos (by omega), hr2]
             refine (rT_no ?_).symm
             by_cases pl : e < V 55 24
             · have := hd1 pl
               exact Or.inr (decide_eq_false (by omega))
             · exact Or.inl (by omega)
           have gE : p < e := by
             have := rT_lt (P := inB 48 57 (V 68)) hL (decide_eq_true (by omega))
             have e2 : rT (inB 48 57 (V 68)) (V 55 24) p = e := by
               rw [eE]; unfold sgE
               rw [if_neg (by omega), if_neg (by omega), if_pos (by omega)]
             omega
           exact tk_fin hp (by rw [up_n _ (by decide)]; exact z26) (by rw [up_n _ (by decide), z25]; exact eE) (by rw [up_s]; unfold sgK; rw [if_neg (by omega), if_neg (by omega), if_pos (by omega), ← eE]; first | rw [if_pos (by omega)] | rw [if_neg (by omega)]) (fun z => by rw [up_n _ (by decide), zN]; unfold sgN; rw [← eE]; exact nm_3 (by omega)) (by rw [up_n _ (by decide)]; omega) (fun b k0 k1 k2 k3 => by rw [up_n _ (by omega), zF b k0 k3]; exact oF b k0 k1 k2 k3) (fun a b ha => by rw [up_n _ (by omega), zC a b ha]; exact oC a b ha))
        | (have hL : p < V 55 24 := Classical.byContradiction fun z => (by have := hc2 z; omega)
           have hcv := hc1 hL
           exact tk_fin hp (by rw [up_n _ (by decide), up_n _ (by decide)]; exact w26) (by rw [up_n _ (by decide), up_s, w25]; unfold sgE; rw [if_neg (by omega), if_neg (by omega), if_neg (by omega)]) (by rw [up_s]; unfold sgK; rw [if_neg (by omega), if_neg (by omega), if_neg (by omega)]; first | rw [if_pos (by omega)] | rw [if_neg (by omega)]) (fun z => by rw [up_s] at z; omega) (by rw [up_n _ (by decide), up_n _ (by decide), w28]; exact h28) (fun b k0 k1 k2 k3 => by rw [up_n _ (by omega), up_n _ (by omega)]; exact oF b k0 k1 k2 k3) (fun a b ha => by rw [up_n _ (by omega), up_n _ (by omega)]; exact oC a b ha)))
              · skip
                refine j_al0 hX dX12_token_118 rfl ?_
                refine j_iconst hX dX12_token_119 ⟨by decide, by decide⟩ ?_
                refine j_putI hX hG fp_X12_198 rfl (by decide) dX12_token_120 ?_
                have lp_123 : ∀ (f9 : Nat) (e : Int) (Z : VV), (p ≤ e ∧ e ≤ V 55 24) → (rT (inB 48 57 (V 68)) (V 55 24) p = rT (inB 48 57 (V 68)) (V 55 24) e) → (Z 55 25 = e) → (∀ b, b ≠ 25 → b ≠ 28 → Z 55 b = W 55 b) → (∀ a b, a ≠ 55 → Z a b = W a b) → (Z 55 28 = nmF (V 68) p (e - p)) → (0 ≤ Z 55 28 ∧ Z 55 28 ≤ 99 ∧ (e - p ≤ 1 → Z 55 28 ≤ 9) ∧ (e - p = 0 → Z 55 28 = 0)) → ((V 55 24 - e).toNat) < f9 → J X G 123 [vA 55, vI c] [] Z := by
                  intro f9
                  induction f9 with
                  | zero => intro e Z _ _ _ _ _ _ _ hm; exact absurd hm (Nat.not_lt_zero _)
                  | succ f9 ih_123 =>
                    intro e Z he hr2 z25 zF zC zN zB hm
                    refine j_al0 hX dX12_token_123 rfl ?_
                    obtain ⟨d, hd, hd1, hd2⟩ : ∃ d, (if e < V 55 24 then V 68 (e) else -1) = d ∧ (e < V 55 24 → d = V 68 (e)) ∧ (¬ e < V 55 24 → d = -1) := ⟨_, rfl, fun h => if_pos h, fun h => if_neg h⟩
                    have z24 : Z 55 24 = V 55 24 := (zF 24 (by decide) (by decide)).trans w24
                    have z26 : Z 55 26 = p := (zF 26 (by decide) (by decide)).trans w26
                    have z68 : Z 68 = V 68 := (funext fun b => zC 68 b (by decide)).trans w68
                    refine j_al0 hX dX12_token_124 rfl ?_
                    refine j_getI hX hG fl_X12_179 (Or.inl rfl) (by decide) dX12_token_125 ?_
                    refine j_pVI1 (ci := 12) hX hG lk_X12_182 (ok_X12_at (by omega) (by omega)) (by decide) rfl (Nat.le_of_ble_eq_true rfl) (Nat.le_of_ble_eq_true rfl) (Nat.le_of_ble_eq_true rfl) rfl dX12_token_128 ?_
                    refine j_eqS (st' := [vI d]) (by rw [z25, z24, z68, hd]) ?_
                    refine j_pSI1 hX hG lk_X12_195 (ok_X12_isDigit ) (Nat.le_of_ble_eq_true rfl) (Nat.le_of_ble_eq_true rfl) (Nat.le_of_ble_eq_true rfl) rfl dX12_token_131 ?_
                    refine j_ifz_eq (tgt := 186) hX dX12_token_134 (by decide) (fun h_134 => ?_) (fun h_134 => ?_)
                    · skip
                      refine j_al0 hX dX12_token_186 rfl ?_
                      refine j_al0 hX dX12_token_187 rfl ?_
                      refine j_getI hX hG fl_X12_179 (Or.inl rfl) (by decide) dX12_token_188 ?_
                      refine j_al0 hX dX12_token_191 rfl ?_
                      refine j_getI hX hG fl_X12_185 (Or.inl rfl) (by decide) dX12_token_192 ?_
                      refine j_isub hX dX12_token_195 (by omega) ?_
                      refine j_iconst hX dX12_token_196 ⟨by decide, by decide⟩ ?_
                      refine j_icmp_le (tgt := 204) hX dX12_token_197 (by decide) (fun h_197 => ?_) (fun h_197 => ?_)
                      · skip
                        refine j_iconst hX dX12_token_204 ⟨by decide, by decide⟩ ?_
                        refine j_putI hX hG fp_X12_188 rfl (by decide) dX12_token_205 ?_
                        refine j_goto (tgt := 254) hX dX12_token_208 (by decide) ?_
                        exact j_ret hR dX12_token_254 (by
        rw [← hS]
        first
        | (have hL : V 55 24 ≤ p := Classical.byContradiction fun z => (by have z1 := hc1 (by omega); have z2 := hmt.2.2 p hp.1 (by omega); omega)
           exact tk_fin hp (by rw [up_n _ (by decide)]; exact w26) (by rw [up_n _ (by decide), w25]; unfold sgE; rw [if_pos hL]) (by rw [up_s]; unfold sgK; rw [if_pos hL]) (fun z => by rw [up_s] at z; omega) (by rw [up_n _ (by decide), w28]; exact h28) (fun b k0 k1 k2 k3 => by rw [up_n _ (by omega)]; exact oF b k0 k1 k2 k3) (fun a b ha => by rw [up_n _ (by omega)]; exact oC a b ha))
        | (have hL : p < V 55 24 := Classical.byContradiction fun z => (by have := hc2 z; omega)
           have hcv := hc1 hL
           have eE : e = sgE (V 68) (V 55 24) p := by
             unfold sgE
             rw [if_neg (by omega), if_pos (by omega), hr2]
             refine (rT_no ?_).symm
             by_cases pl : e < V 55 24
             · have := hd1 pl
               exact Or.inr (decide_eq_false (by omega))
             · exact Or.inl (by omega)
           exact tk_fin hp (by rw [up_n _ (by decide), zF 26 (by decide)]; exact w26) (by rw [up_n _ (by decide), z25]; exact eE) (by rw [up_s]; unfold sgK; rw [if_neg (by omega), if_pos (by omega)]) (fun z => by rw [up_s] at z; omega) (by rw [up_n _ (by decide), zF 28 (by decide), w28]; exact h28) (fun b k0 k1 k2 k3 => by rw [up_n _ (by omega), zF b k0]; exact oF b k0 k1 k2 k3) (fun a b ha => by rw [up_n _ (by omega), zC a b ha]; exact oC a b ha))
        | (have hL : p < V 55 24 := Classical.byContradiction fun z => (by have := hc2 z; omega)
           have hcv := hc1 hL
           have eE : e = sgE (V 68) (V 55 24) p := by
             unfold sgE
             rw [if_neg (by omega), if_neg (by omega), if_pos (by omega), hr2]
             refine (rT_no ?_).symm
             by_cases pl : e < V 55 24
             · have := hd1 pl
               exact Or.inr (decide_eq_false (by omega))
             · exact Or.inl (by omega)
           have gE : p < e := by
             have := rT_lt (P := inB 48 57 (V 68)) hL (decide_eq_true (by omega))
             have e2 : rT (inB 48 57 (V 68)) (V 55 24) p = e := by
               rw [eE]; unfold sgE
               rw [if_neg (by omega), if_neg (by omega), if_pos (by omega)]
             omega
           exact tk_fin hp (by rw [up_n _ (by decide)]; exact z26) (by rw [up_n _ (by decide), z25]; exact eE) (by rw [up_s]; unfold sgK; rw [if_neg (by omega), if_neg (by omega), if_pos (by omega), ← eE]; first | rw [if_pos (by omega)] | rw [if_neg (by omega)]) (fun z => by rw [up_n _ (by decide), zN]; unfold sgN; rw [← eE]; exact nm_3 (by omega)) (by rw [up_n _ (by decide)]; omega) (fun b k0 k1 k2 k3 => by rw [up_n _ (by omega), zF b k0 k3]; exact oF b k0 k1 k2 k3) (fun a b ha => by rw [up_n _ (by omega), zC a b ha]; exact oC a b ha))
        | (have hL : p < V 55 24 := Classical.byContradiction fun z => (by have := hc2 z; omega)
           have hcv := hc1 hL
           exact tk_fin hp (by rw [up_n _ (by decide), up_n _ (by decide)]; exact w26) (by rw [up_n _ (by decide), up_s, w25]; unfold sgE; rw [if_neg (by omega), if_neg (by omega), if_neg (by omega)]) (by rw [up_s]; unfold sgK; rw [if_neg (by omega), if_neg (by omega), if_neg (by omega)]; first | rw [if_pos (by omega)] | rw [if_neg (by omega)]) (fun z => by rw [up_s] at z; omega) (by rw [up_n _ (by decide), up_n _ (by decide), w28]; exact h28) (fun b k0 k1 k2 k3 => by rw [up_n _ (by omega), up_n _ (by omega)]; exact oF b k0 k1 k2 k3) (fun a b ha => by rw [up_n _ (by omega), up_n _ (by omega)]; exact oC a b ha)))
                      · skip
                        refine j_iconst hX dX12_token_200 ⟨by decide, by decide⟩ ?_
                        refine j_goto (tgt := 205) hX dX12_token_201 (by decide) ?_
                        refine j_putI hX hG fp_X12_188 rfl (by decide) dX12_token_205 ?_
                        refine j_goto (tgt := 254) hX dX12_token_208 (by decide) ?_
                        exact j_ret hR dX12_token_254 (by
        rw [← hS]
        first
        | (have hL : V 55 24 ≤ p := Classical.byContradiction fun z => (by have z1 := hc1 (by omega); have z2 := hmt.2.2 p hp.1 (by omega); omega)
           exact tk_fin hp (by rw [up_n _ (by decide)]; exact w26) (by rw [up_n _ (by decide), w25]; unfold sgE; rw [if_pos hL]) (by rw [up_s]; unfold sgK; rw [if_pos hL]) (fun z => by rw [up_s] at z; omega) (by rw [up_n _ (by decide), w28]; exact h28) (fun b k0 k1 k2 k3 => by rw [up_n _ (by omega)]; exact oF b k0 k1 k2 k3) (fun a b ha => by rw [up_n _ (by omega)]; exact oC a b ha))
        | (have hL : p < V 55 24 := Classical.byContradiction fun z => (by have := hc2 z; omega)
           have hcv := hc1 hL
           have eE : e = sgE (V 68) (V 55 24) p := by
             unfold sgE
             rw [if_neg (by omega), if_pos (by omega), hr2]
             refine (rT_no ?_).symm
             by_cases pl : e < V 55 24
             · have := hd1 pl
               exact Or.inr (decide_eq_false (by omega))
             · exact Or.inl (by omega)
           exact tk_fin hp (by rw [up_n _ (by decide), zF 26 (by decide)]; exact w26) (by rw [up_n _ (by decide), z25]; exact eE) (by rw [up_s]; unfold sgK; rw [if_neg (by omega), if_pos (by omega)]) (fun z => by rw [up_s] at z; omega) (by rw [up_n _ (by decide), zF 28 (by decide), w28]; exact h28) (fun b k0 k1 k2 k3 => by rw [up_n _ (by omega), zF b k0]; exact oF b k0 k1 k2 k3) (fun a b ha => by rw [up_n _ (by omega), zC a b ha]; exact oC a b ha))
        | (have hL : p < V 55 24 := Classical.byContradiction fun z => (by have := hc2 z; omega)
           have hcv := hc1 hL
           have eE : e = sgE (V 68) (V 55 24) p := by
             unfold sgE
             rw [if_neg (by omega), if_neg (by omega), if_pos (by omega), hr2]
             refine (rT_no ?_).symm
             by_cases pl : e < V 55 24
             · have := hd1 pl
               exact Or.inr (decide_eq_false (by omega))
             · exact Or.inl (by omega)
           have gE : p < e := by
             have := rT_lt (P := inB 48 57 (V 68)) hL (decide_eq_true (by omega))
             have e2 : rT (inB 48 57 (V 68)) (V 55 24) p = e := by
               rw [eE]; unfold sgE
               rw [if_neg (by omega), if_neg (by omega), if_pos (by omega)]
             omega
           exact tk_fin hp (by rw [up_n _ (by decide)]; exact z26) (by rw [up_n _ (by decide), z25]; exact eE) (by rw [up_s]; unfold sgK; rw [if_neg (by omega), if_neg (by omega), if_pos (by omega), ← eE]; first | rw [if_pos (by omega)] | rw [if_neg (by omega)]) (fun z => by rw [up_n _ (by decide), zN]; unfold sgN; rw [← eE]; exact nm_3 (by omega)) (by rw [up_n _ (by decide)]; omega) (fun b k0 k1 k2 k3 => by rw [up_n _ (by omega), zF b k0 k3]; exact oF b k0 k1 k2 k3) (fun a b ha => by rw [up_n _ (by omega), zC a b ha]; exact oC a b ha))
        | (have hL : p < V 55 24 := Classical.byContradiction fun z => (by have := hc2 z; omega)
           have hcv := hc1 hL
           exact tk_fin hp (by rw [up_n _ (by decide), up_n _ (by decide)]; exact w26) (by rw [up_n _ (by decide), up_s, w25]; unfold sgE; rw [if_neg (by omega), if_neg (by omega), if_neg (by omega)]) (by rw [up_s]; unfold sgK; rw [if_neg (by omega), if_neg (by omega), if_neg (by omega)]; first | rw [if_pos (by omega)] | rw [if_neg (by omega)]) (fun z => by rw [up_s] at z; omega) (by rw [up_n _ (by decide), up_n _ (by decide), w28]; exact h28) (fun b k0 k1 k2 k3 => by rw [up_n _ (by omega), up_n _ (by omega)]; exact oF b k0 k1 k2 k3) (fun a b ha => by rw [up_n _ (by omega), up_n _ (by omega)]; exact oC a b ha)))
                    · skip
                      have pl : e < V 55 24 := Classical.byContradiction fun z => (by have := hd2 z; omega)
                      have hdv := hd1 pl
                      refine j_al0 hX dX12_token_137 rfl ?_
                      refine j_getI hX hG fl_X12_179 (Or.inl rfl) (by decide) dX12_token_138 ?_
                      refine j_al0 hX dX12_token_141 rfl ?_
                      refine j_getI hX hG fl_X12_185 (Or.inl rfl) (by decide) dX12_token_142 ?_
                      refine j_isub hX dX12_token_145 (by omega) ?_
                      refine j_iconst hX dX12_token_146 ⟨by decide, by decide⟩ ?_
                      refine j_icmp_ge (tgt := 173) hX dX12_token_147 (by decide) (fun h_147 => ?_) (fun h_147 => ?_)
                      · skip
                        refine j_al0 hX dX12_token_173 rfl ?_
                        refine j_dup hX dX12_token_174 rfl ?_
                        refine j_getI hX hG fl_X12_179 (Or.inl rfl) (by decide) dX12_token_175 ?_
                        refine j_iconst hX dX12_token_178 ⟨by decide, by decide⟩ ?_
                        refine j_iadd hX dX12_token_179 (by first | omega | (rw [up_n _ (by decide)]; omega)) ?_
                        refine j_putI hX hG fp_X12_179 rfl (by decide) dX12_token_180 ?_
                        refine j_goto (tgt := 123) hX dX12_token_183 (by decide) ?_
                        exact ih_123 (e + 1) _ (by omega) (by rw [hr2]; exact rT_go pl (decide_eq_true (by omega))) (by rw [up_s]; first | rw [up_n _ (by decide), z25] | rw [z25]) (fun b hb hb2 => by (repeat rw [up_n _ (by omega)]); exact zF b hb hb2) (fun a b ha => by (repeat rw [up_n _ (by omega)]); exact zC a b ha) (by rw [up_n _ (by decide)]; first | (rw [up_s, zN, hdv]; exact nm_1 (by omega) (by omega)) | (rw [zN]; exact nm_2 (by omega))) (by rw [up_n _ (by decide)]; first | (rw [up_s]; omega) | omega) (by omega)
                      · skip
                        refine j_al0 hX dX12_token_150 rfl ?_
                        refine j_bipush hX dX12_token_151 (by decide) ⟨by decide, by decide⟩ ?_
                        refine j_al0 hX dX12_token_153 rfl ?_
                        refine j_getI hX hG fl_X12_198 (Or.inl rfl) (by decide) dX12_token_154 ?_
                        refine j_imul hX dX12_token_157 (by omega) ?_
                        refine j_al0 hX dX12_token_158 rfl ?_
                        refine j_al0 hX dX12_token_159 rfl ?_
                        refine j_getI hX hG fl_X12_179 (Or.inl rfl) (by decide) dX12_token_160 ?_
                        refine j_pVI1 (ci := 12) hX hG lk_X12_182 (ok_X12_at (by omega) (by omega)) (by decide) rfl (Nat.le_of_ble_eq_true rfl) (Nat.le_of_ble_eq_true rfl) (Nat.le_of_ble_eq_true rfl) rfl dX12_token_163 ?_
                        refine j_eqS (st' := [vI d, vI (10 * Z 55 28), vA 55]) (by rw [z25, z24, z68, hd]) ?_
                        refine j_iadd hX dX12_token_166 (by omega) ?_
                        refine j_bipush hX dX12_token_167 (by decide) ⟨by decide, by decide⟩ ?_
                        refine j_isub hX dX12_token_169 (by omega) ?_
                        refine j_putI hX hG fp_X12_198 rfl (by decide) dX12_token_170 ?_
                        refine j_al0 hX dX12_token_173 rfl ?_
                        refine j_dup hX dX12_token_174 rfl ?_
                        refine j_getI hX hG fl_X12_179 (Or.inl rfl) (by decide) dX12_token_175 ?_
                        refine j_iconst hX dX12_token_178 ⟨by decide, by decide⟩ ?_
                        refine j_iadd hX dX12_token_179 (by first | omega | (rw [up_n _ (by decide)]; omega)) ?_
                        refine j_putI hX hG fp_X12_179 rfl (by decide) dX12_token_180 ?_
                        refine j_goto (tgt := 123) hX dX12_token_183 (by decide) ?_
                        exact ih_123 (e + 1) _ (by omega) (by rw [hr2]; exact rT_go pl (decide_eq_true (by omega))) (by rw [up_s]; first | rw [up_n _ (by decide), z25] | rw [z25]) (fun b hb hb2 => by (repeat rw [up_n _ (by omega)]); exact zF b hb hb2) (fun a b ha => by (repeat rw [up_n _ (by omega)]); exact zC a b ha) (by rw [up_n _ (by decide)]; first | (rw [up_s, zN, hdv]; exact nm_1 (by omega) (by omega)) | (rw [zN]; exact nm_2 (by omega))) (by rw [up_n _ (by decide)]; first | (rw [up_s]; omega) | omega) (by omega)
                exact lp_123 _ p _ (by omega) rfl (by rw [up_n _ (by decide)]; exact w25) (fun b _ hb => by rw [up_n _ (by omega)]) (fun a b ha => by rw [up_n _ (by omega)]) (by rw [up_s, Int.sub_self]; rfl) (by rw [up_s]; omega) (Nat.lt_succ_self _)
            · skip
              have lp_76 : ∀ (f9 : Nat) (e : Int) (Z : VV), (p ≤ e ∧ e ≤ V 55 24) → (rT (inB 97 122 (V 68)) (V 55 24) p = rT (inB 97 122 (V 68)) (V 55 24) e) → (Z 55 25 = e) → (∀ b, b ≠ 25 → Z 55 b = W 55 b) → (∀ a b, a ≠ 55 → Z a b = W a b) → ((V 55 24 - e).toNat) < f9 → J X G 76 [vA 55, vI c] [] Z := by
                intro f9
                induction f9 with
                | zero => intro e Z _ _ _ _ _ hm; exact absurd hm (Nat.not_lt_zero _)
                | succ f9 ih_76 =>
                  intro e Z he hr2 z25 zF zC hm
                  refine j_al0 hX dX12_token_76 rfl ?_
                  obtain ⟨d, hd, hd1, hd2⟩ : ∃ d, (if e < V 55 24 then V 68 (e) else -1) = d ∧ (e < V 55 24 → d = V 68 (e)) ∧ (¬ e < V 55 24 → d = -1) := ⟨_, rfl, fun h => if_pos h, fun h => if_neg h⟩
                  have z24 : Z 55 24 = V 55 24 := (zF 24 (by decide)).trans w24
                  have z68 : Z 68 = V 68 := (funext fun b => zC 68 b (by decide)).trans w68
                  refine j_al0 hX dX12_token_77 rfl ?_
                  refine j_getI hX hG fl_X12_179 (Or.inl rfl) (by decide) dX12_token_78 ?_
                  refine j_pVI1 (ci := 12) hX hG lk_X12_182 (ok_X12_at (by omega) (by omega)) (by decide) rfl (Nat.le_of_ble_eq_true rfl) (Nat.le_of_ble_eq_true rfl) (Nat.le_of_ble_eq_true rfl) rfl dX12_token_81 ?_
                  refine j_eqS (st' := [vI d]) (by rw [z25, z24, z68, hd]) ?_
                  refine j_pSI1 hX hG lk_X12_191 (ok_X12_isLetter ) (Nat.le_of_ble_eq_true rfl) (Nat.le_of_ble_eq_true rfl) (Nat.le_of_ble_eq_true rfl) rfl dX12_token_84 ?_
                  refine j_ifz_eq (tgt := 103) hX dX12_token_87 (by decide) (fun h_87 => ?_) (fun h_87 => ?_)
                  · skip
                    refine j_al0 hX dX12_token_103 rfl ?_
                    refine j_iconst hX dX12_token_104 ⟨by decide, by decide⟩ ?_
                    refine j_putI hX hG fp_X12_188 rfl (by decide) dX12_token_105 ?_
                    refine j_goto (tgt := 254) hX dX12_token_108 (by decide) ?_
                    exact j_ret hR dX12_token_254 (by
        rw [← hS]
        first
        | (have hL : V 55 24 ≤ p := Classical.byContradiction fun z => (by have z1 := hc1 (by omega); have z2 := hmt.2.2 p hp.1 (by omega); omega)
           exact tk_fin hp (by rw [up_n _ (by decide)]; exact w26) (by rw [up_n _ (by decide), w25]; unfold sgE; rw [if_pos hL]) (by rw [up_s]; unfold sgK; rw [if_pos hL]) (fun z => by rw [up_s] at z; omega) (by rw [up_n _ (by decide), w28]; exact h28) (fun b k0 k1 k2 k3 => by rw [up_n _ (by omega)]; exact oF b k0 k1 k2 k3) (fun a b ha => by rw [up_n _ (by omega)]; exact oC a b ha))
        | (have hL : p < V 55 24 := Classical.byContradiction fun z => (by have := hc2 z; omega)
           have hcv := hc1 hL
           have eE : e = sgE (V 68) (V 55 24) p := by
             unfold sgE
             rw [if_neg (by omega), if_pos (by omega), hr2]
             refine (rT_no ?_).symm
             by_cases pl : e < V 55 24
             · have := hd1 pl
               exact Or.inr (decide_eq_false (by omega))
             · exact Or.inl (by omega)
           exact tk_fin hp (by rw [up_n _ (by decide), zF 26 (by decide)]; exact w26) (by rw [up_n _ (by decide), z25]; exact eE) (by rw [up_s]; unfold sgK; rw [if_neg (by omega), if_pos (by omega)]) (fun z => by rw [up_s] at z; omega) (by rw [up_n _ (by decide), zF 28 (by decide), w28]; exact h28) (fun b k0 k1 k2 k3 => by rw [up_n _ (by omega), zF b k0]; exact oF b k0 k1 k2 k3) (fun a b ha => by rw [up_n _ (by omega), zC a b ha]; exact oC a b ha))
        | (have hL : p < V 55 24 := Classical.byContradiction fun z => (by have := hc2 z; omega)
           have hcv := hc1 hL
           have eE : e = sgE (V 68) (V 55 24) p := by
             unfold sgE
             rw [if_neg (by omega), if_neg (by omega), if_pos (by omega), hr2]
             refine (rT_no ?_).symm
             by_cases pl : e < V 55 24
             · have := hd1 pl
               exact Or.inr (decide_eq_false (by omega))
             · exact Or.inl (by omega)
           have gE : p < e := by
             have := rT_lt (P := inB 48 57 (V 68)) hL (decide_eq_true (by omega))
             have e2 : rT (inB 48 57 (V 68)) (V 55 24) p = e := by
               rw [eE]; unfold sgE
               rw [if_neg (by omega), if_neg (by omega), if_pos (by omega)]
             omega
           exact tk_fin hp (by rw [up_n _ (by decide)]; exact z26) (by rw [up_n _ (by decide), z25]; exact eE) (by rw [up_s]; unfold sgK; rw [if_neg (by omega), if_neg (by omega), if_pos (by omega), ← eE]; first | rw [if_pos (by omega)] | rw [if_neg (by omega)]) (fun z => by rw [up_n _ (by decide), zN]; unfold sgN; rw [← eE]; exact nm_3 (by omega)) (by rw [up_n _ (by decide)]; omega) (fun b k0 k1 k2 k3 => by rw [up_n _ (by omega), zF b k0 k3]; exact oF b k0 k1 k2 k3) (fun a b ha => by rw [up_n _ (by omega), zC a b ha]; exact oC a b ha))
        | (have hL : p < V 55 24 := Classical.byContradiction fun z => (by have := hc2 z; omega)
           have hcv := hc1 hL
           exact tk_fin hp (by rw [up_n _ (by decide), up_n _ (by decide)]; exact w26) (by rw [up_n _ (by decide), up_s, w25]; unfold sgE; rw [if_neg (by omega), if_neg (by omega), if_neg (by omega)]) (by rw [up_s]; unfold sgK; rw [if_neg (by omega), if_neg (by omega), if_neg (by omega)]; first | rw [if_pos (by omega)] | rw [if_neg (by omega)]) (fun z => by rw [up_s] at z; omega) (by rw [up_n _ (by decide), up_n _ (by decide), w28]; exact h28) (fun b k0 k1 k2 k3 => by rw [up_n _ (by omega), up_n _ (by omega)]; exact oF b k0 k1 k2 k3) (fun a b ha => by rw [up_n _ (by omega), up_n _ (by omega)]; exact oC a b ha)))
                  · skip
                    have pl : e < V 55 24 := Classical.byContradiction fun z => (by have := hd2 z; omega)
                    have hdv := hd1 pl
                    refine j_al0 hX dX12_token_90 rfl ?_
                    refine j_dup hX dX12_token_91 rfl ?_
                    refine j_getI hX hG fl_X12_179 (Or.inl rfl) (by decide) dX12_token_92 ?_
                    refine j_iconst hX dX12_token_95 ⟨by decide, by decide⟩ ?_
                    refine j_iadd hX dX12_token_96 (by omega) ?_
                    refine j_putI hX hG fp_X12_179 rfl (by decide) dX12_token_97 ?_
                    refine j_goto (tgt := 76) hX dX12_token_100 (by decide) ?_
                    exact ih_76 (e + 1) _ (by omega) (by rw [hr2]; exact rT_go pl (decide_eq_true (by omega))) (by rw [up_s, z25]) (fun b hb => by rw [up_n _ (by omega)]; exact zF b hb) (fun a b ha => by rw [up_n _ (by omega)]; exact zC a b ha) (by omega)
              exact lp_76 _ p _ (by omega) rfl w25 (fun _ _ => rfl) (fun _ _ _ => rfl) (Nat.lt_succ_self _)
          · skip
            refine j_al0 hX dX12_token_61 rfl ?_
            refine j_iconst hX dX12_token_62 ⟨by decide, by decide⟩ ?_
            refine j_putI hX hG fp_X12_188 rfl (by decide) dX12_token_63 ?_
            refine j_goto (tgt := 254) hX dX12_token_66 (by decide) ?_
            exact j_ret hR dX12_token_254 (by
        rw [← hS]
        first
        | (have hL : V 55 24 ≤ p := Classical.byContradiction fun z => (by have z1 := hc1 (by omega); have z2 := hmt.2.2 p hp.1 (by omega); omega)
           exact tk_fin hp (by rw [up_n _ (by decide)]; exact w26) (by rw [up_n _ (by decide), w25]; unfold sgE; rw [if_pos hL]) (by rw [up_s]; unfold sgK; rw [if_pos hL]) (fun z => by rw [up_s] at z; omega) (by rw [up_n _ (by decide), w28]; exact h28) (fun b k0 k1 k2 k3 => by rw [up_n _ (by omega)]; exact oF b k0 k1 k2 k3) (fun a b ha => by rw [up_n _ (by omega)]; exact oC a b ha))
        | (have hL : p < V 55 24 := Classical.byContradiction fun z => (by have := hc2 z; omega)
           have hcv := hc1 hL
           have eE : e = sgE (V 68) (V 55 24) p := by
             unfold sgE
             rw [if_neg (by omega), if_pos (by omega), hr2]
             refine (rT_no ?_).symm
             by_cases pl : e < V 55 24
             · have := hd1 pl
               exact Or.inr (decide_eq_false (by omega))
             · exact Or.inl (by omega)
           exact tk_fin hp (by rw [up_n _ (by decide), zF 26 (by decide)]; exact w26) (by rw [up_n _ (by decide), z25]; exact eE) (by rw [up_s]; unfold sgK; rw [if_neg (by omega), if_pos (by omega)]) (fun z => by rw [up_s] at z; omega) (by rw [up_n _ (by decide), zF 28 (by decide), w28]; exact h28) (fun b k0 k1 k2 k3 => by rw [up_n _ (by omega), zF b k0]; exact oF b k0 k1 k2 k3) (fun a b ha => by rw [up_n _ (by omega), zC a b ha]; exact oC a b ha))
        | (have hL : p < V 55 24 := Classical.byContradiction fun z => (by have := hc2 z; omega)
           have hcv := hc1 hL
           have eE : e = sgE (V 68) (V 55 24) p := by
             unfold sgE
             rw [if_neg (by omega), if_neg (by omega), if_pos (by omega), hr2]
             refine (rT_no ?_).symm
             by_cases pl : e < V 55 24
             · have := hd1 pl
               exact Or.inr (decide_eq_false (by omega))
             · exact Or.inl (by omega)
           have gE : p < e := by
             have := rT_lt (P := inB 48 57 (V 68)) hL (decide_eq_true (by omega))
             have e2 : rT (inB 48 57 (V 68)) (V 55 24) p = e := by
               rw [eE]; unfold sgE
               rw [if_neg (by omega), if_neg (by omega), if_pos (by omega)]
             omega
           exact tk_fin hp (by rw [up_n _ (by decide)]; exact z26) (by rw [up_n _ (by decide), z25]; exact eE) (by rw [up_s]; unfold sgK; rw [if_neg (by omega), if_neg (by omega), if_pos (by omega), ← eE]; first | rw [if_pos (by omega)] | rw [if_neg (by omega)]) (fun z => by rw [up_n _ (by decide), zN]; unfold sgN; rw [← eE]; exact nm_3 (by omega)) (by rw [up_n _ (by decide)]; omega) (fun b k0 k1 k2 k3 => by rw [up_n _ (by omega), zF b k0 k3]; exact oF b k0 k1 k2 k3) (fun a b ha => by rw [up_n _ (by omega), zC a b ha]; exact oC a b ha))
        | (have hL : p < V 55 24 := Classical.byContradiction fun z => (by have := hc2 z; omega)
           have hcv := hc1 hL
           exact tk_fin hp (by rw [up_n _ (by decide), up_n _ (by decide)]; exact w26) (by rw [up_n _ (by decide), up_s, w25]; unfold sgE; rw [if_neg (by omega), if_neg (by omega), if_neg (by omega)]) (by rw [up_s]; unfold sgK; rw [if_neg (by omega), if_neg (by omega), if_neg (by omega)]; first | rw [if_pos (by omega)] | rw [if_neg (by omega)]) (fun z => by rw [up_s] at z; omega) (by rw [up_n _ (by decide), up_n _ (by decide), w28]; exact h28) (fun b k0 k1 k2 k3 => by rw [up_n _ (by omega), up_n _ (by omega)]; exact oF b k0 k1 k2 k3) (fun a b ha => by rw [up_n _ (by omega), up_n _ (by omega)]; exact oC a b ha)))
        · skip
          have pl : p < V 55 24 := Classical.byContradiction fun z => (by have := hc2 z; omega)
          have hcv := hc1 pl
          refine j_al0 hX dX12_token_26 rfl ?_
          refine j_dup hX dX12_token_27 rfl ?_
          refine j_getI hX hG fl_X12_179 (Or.inl rfl) (by decide) dX12_token_28 ?_
          refine j_iconst hX dX12_token_31 ⟨by decide, by decide⟩ ?_
          refine j_iadd hX dX12_token_32 (by omega) ?_
          refine j_putI hX hG fp_X12_179 rfl (by decide) dX12_token_33 ?_
          refine j_goto (tgt := 0) hX dX12_token_36 (by decide) ?_
          exact ih_0 (p + 1) _ (by omega) (by rw [hr]; exact rT_go pl (decide_eq_true (by omega))) (by rw [up_s, y25]) (fun b hb => by rw [up_n _ (by omega)]; exact yF b hb) (fun a b ha => by rw [up_n _ (by omega)]; exact yC a b ha) (by omega)
  exact lp_0 _ _ _ h25 rfl rfl (fun _ _ => rfl) (fun _ _ _ => rfl) (Nat.lt_succ_self _)
