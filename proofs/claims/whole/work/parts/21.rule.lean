theorem RO.word {V : VV} {r a b c : Int} (h : RO V r) (ha : 0 ≤ a ∧ a < V r 3) (hb : 0 ≤ b ∧ b < V r 3) (hc : 0 ≤ c ∧ c < V r 3) : 0 ≤ (if V r 4 = 2 then a * V r 3 + b else (a * V r 3 + b) * V r 3 + c) ∧ (if V r 4 = 2 then a * V r 3 + b else (a * V r 3 + b) * V r 3 + c) < V r 5 := by
  have h9 := h.b
  obtain ⟨h1, h2, h3⟩ := h
  have w1 := wd_b (N := V r 3) (g := V r 3) (by omega) ha hb
  split
  · rename_i e
    rw [h3, (show V r 6 = V r 3 by omega)]
    exact w1
  · rename_i e
    rw [h3, (show V r 6 = V r 3 * V r 3 by omega)]
    exact wd_b (by omega) w1 hc
theorem stepF_e {T : Int → Int} {g w n : Int} {R : Int → Int} {k : Int} (hw : 2 ≤ w ∧ w ≤ 3) (h0 : 0 ≤ k) (h1 : k < n) : T (if w = 2 then R ((k - w + 2) % n) * g + R ((k - w + 2 + 1) % n) else (R ((k - w + 2) % n) * g + R ((k - w + 2 + 1) % n)) * g + R ((k - w + 2 + 2) % n)) = stepF T g w n R k := by
  unfold stepF
  by_cases e : w = 2
  · rw [if_pos e, if_pos e, e, show k - 2 + 2 = k by omega, Int.emod_eq_of_lt h0 h1]
  · rw [if_neg e, if_neg e, show w = 3 by omega, show k - 3 + 2 + 1 = k by omega, show k - 3 + 2 + 2 = k + 1 by omega, show k - 3 + 2 = k - 1 by omega, Int.emod_eq_of_lt h0 h1]
set_option maxHeartbeats 4000000 in
theorem ok_X8_respects {V : VV} {p f : Int} {q : Nat} (ho9 : RO V 15) (ht : TR V 15) (hg : GP V 13 q) (h3 : V 15 3 = gO q) (hp : 0 ≤ p ∧ p < V 15 4) (hf : 0 ≤ f ∧ f < gO q) : Ok NC yX8_respects cX8_respects 9 (some .boolean) 3 66 [vA 15, vA 13, vI p, vI f] V (pI (fun x9 V' => x9 = (if resB (V 16) q (V 15 3) (V 15 5) (V 15 4 - 1 - p).toNat f = true then 1 else 0) ∧ V' = V)) := by
  refine Ok.intro (by decide +kernel) (Nat.le_of_ble_eq_true rfl) (fun X G hX hG hR hoa hoV => ?_)
  show J X G 0 [vA 15, vA 13, vI p, vI f, vU, vU, vU, vU, vU] [] V
  have hb9 := ho9.b
  have hq9 := hg.1
  have hq6 := gO_le hq9
  obtain ⟨N9, -, -, -, w9, w9b⟩ := ho9.pw hp
  have o9 := ho9.one hp (d := f) (by omega)
  have tf9 : 0 ≤ V 16 (f * V 15 3 ^ (V 15 4 - 1 - p).toNat) ∧ V 16 (f * V 15 3 ^ (V 15 4 - 1 - p).toNat) < V 15 3 := ht _ o9.1 o9.2
  refine j_al0 hX dX8_respects_0 rfl ?_
  refine j_il2 hX dX8_respects_1 ?_
  refine j_pVI1 (ci := 8) hX hG lk_X8_79 (ok_X8_weightOf (Or.inr (Or.inl rfl)) (by first | assumption | omega | decide) (by first | assumption | omega | decide)) (by decide) rfl (Nat.le_of_ble_eq_true rfl) (Nat.le_of_ble_eq_true rfl) (Nat.le_of_ble_eq_true rfl) rfl dX8_respects_2 ?_
  try dsimp only [Int.reduceAdd]
  refine j_is4 hX dX8_respects_5 rfl ?_
  refine j_al0 hX dX8_respects_7 rfl ?_
  refine j_il3 hX dX8_respects_8 ?_
  refine j_il4 hX dX8_respects_9 ?_
  refine j_imul hX dX8_respects_11 (by omega) ?_
  refine j_pVI1 (ci := 8) hX hG lk_X8_52 (ok_X8_gives (Or.inr (Or.inl rfl)) (by first | assumption | omega | decide)) (by decide) rfl (Nat.le_of_ble_eq_true rfl) (Nat.le_of_ble_eq_true rfl) (Nat.le_of_ble_eq_true rfl) rfl dX8_respects_12 ?_
  try dsimp only [Int.reduceAdd]
  refine j_is5 hX dX8_respects_15 rfl ?_
  refine j_iconst hX dX8_respects_17 ⟨by decide, by decide⟩ ?_
  refine j_is6 hX dX8_respects_18 rfl ?_
  have lp_20 : ∀ (f9 : Nat) (e : Int), (0 ≤ e ∧ e ≤ V 15 5) → (∀ j : Int, 0 ≤ j → j < e → resP (V 16) q (V 15 3) (V 15 4 - 1 - p).toNat f j = true) → ((V 15 5 - e).toNat) < f9 → J X G 20 [vA 15, vA 13, vI p, vI f, vI (V 15 3 ^ (V 15 4 - 1 - p).toNat), vI (V 16 (f * V 15 3 ^ (V 15 4 - 1 - p).toNat)), vI e, vU, vU] [] V := by
    intro f9
    induction f9 with
    | zero => intro e _ _ hm; exact absurd hm (Nat.not_lt_zero _)
    | succ f9 ih_20 =>
      intro e he hi hm
      refine j_il6 hX dX8_respects_20 ?_
      refine j_al0 hX dX8_respects_22 rfl ?_
      refine j_getI hX hG fl_X8_36 (Or.inl rfl) (by decide) dX8_respects_23 ?_
      refine j_icmp_ge (tgt := 85) hX dX8_respects_26 (by decide) (fun h_26 => ?_) (fun h_26 => ?_)
      · skip
        refine j_iconst hX dX8_respects_85 ⟨by decide, by decide⟩ ?_
        exact j_retZ hR dX8_respects_86 (by omega) ⟨by rw [if_pos]; exact (allR (p := resP (V 16) q (V 15 3) (V 15 4 - 1 - p).toNat f)).mpr (fun j h0 h1 => hi j h0 (by omega)), rfl⟩
      · skip
        have d9 := dg_b (g := V 15 3) (e := e) (j := (V 15 4 - 1 - p).toNat) (by omega)
        have t9 : 0 ≤ V 16 e ∧ V 16 e < V 15 3 := ht e he.1 (by omega)
        have m9 := gM_lt hq9 (x := dg (V 15 3) e (V 15 4 - 1 - p).toNat) (y := f) (by omega) hf
        have r9 := ho9.rep hp (e := e) (d := gM q (dg (V 15 3) e (V 15 4 - 1 - p).toNat) f) (by omega) (by omega)
        have s9 := ho9.dif hp (e := e) (d := gM q (dg (V 15 3) e (V 15 4 - 1 - p).toNat) f) (by omega)
        refine j_al0 hX dX8_respects_29 rfl ?_
        refine j_il6 hX dX8_respects_30 ?_
        refine j_il2 hX dX8_respects_32 ?_
        refine j_pVI2 (ci := 8) hX hG lk_X8_60 (ok_X8_stateOf (Or.inr (Or.inl rfl)) (by first | assumption | omega | decide) he.1 (by first | assumption | omega | decide)) (by decide) rfl (Nat.le_of_ble_eq_true rfl) (Nat.le_of_ble_eq_true rfl) (Nat.le_of_ble_eq_true rfl) rfl dX8_respects_33 ?_
        try dsimp only [Int.reduceAdd]
        refine j_is7 hX dX8_respects_36 rfl ?_
        refine j_il6 hX dX8_respects_38 ?_
        refine j_al1 hX dX8_respects_40 rfl ?_
        refine j_il7 hX dX8_respects_41 ?_
        refine j_il3 hX dX8_respects_43 ?_
        refine j_pVI2 (ci := 2) hX hG lk_X8_68 (ok_X2_times (Or.inr rfl) (by first | assumption | omega | decide) (by first | assumption | omega | decide) (by first | assumption | omega | decide)) (by decide) rfl (Nat.le_of_ble_eq_true rfl) (Nat.le_of_ble_eq_true rfl) (Nat.le_of_ble_eq_true rfl) rfl dX8_respects_44 ?_
        try dsimp only [Int.reduceAdd]
        refine j_il7 hX dX8_respects_47 ?_
        refine j_isub hX dX8_respects_49 (by omega) ?_
        refine j_il4 hX dX8_respects_50 ?_
        refine j_imul hX dX8_respects_52 (by omega) ?_
        refine j_iadd hX dX8_respects_53 (by omega) ?_
        refine j_is8 hX dX8_respects_54 rfl ?_
        refine j_al0 hX dX8_respects_56 rfl ?_
        refine j_il8 hX dX8_respects_57 ?_
        refine j_pVI1 (ci := 8) hX hG lk_X8_52 (ok_X8_gives (Or.inr (Or.inl rfl)) (by first | assumption | omega | decide)) (by decide) rfl (Nat.le_of_ble_eq_true rfl) (Nat.le_of_ble_eq_true rfl) (Nat.le_of_ble_eq_true rfl) rfl dX8_respects_59 ?_
        try dsimp only [Int.reduceAdd]
        refine j_al1 hX dX8_respects_62 rfl ?_
        refine j_al0 hX dX8_respects_63 rfl ?_
        refine j_il6 hX dX8_respects_64 ?_
        refine j_pVI1 (ci := 8) hX hG lk_X8_52 (ok_X8_gives (Or.inr (Or.inl rfl)) (by first | assumption | omega | decide)) (by decide) rfl (Nat.le_of_ble_eq_true rfl) (Nat.le_of_ble_eq_true rfl) (Nat.le_of_ble_eq_true rfl) rfl dX8_respects_66 ?_
        try dsimp only [Int.reduceAdd]
        refine j_il5 hX dX8_respects_69 ?_
        refine j_pVI2 (ci := 2) hX hG lk_X8_68 (ok_X2_times (Or.inr rfl) (by first | assumption | omega | decide) (by first | assumption | omega | decide) (by first | assumption | omega | decide)) (by decide) rfl (Nat.le_of_ble_eq_true rfl) (Nat.le_of_ble_eq_true rfl) (Nat.le_of_ble_eq_true rfl) rfl dX8_respects_71 ?_
        try dsimp only [Int.reduceAdd]
        refine j_icmp_eq (tgt := 79) hX dX8_respects_74 (by decide) (fun h_74 => ?_) (fun h_74 => ?_)
        · skip
          refine j_inc6 hX dX8_respects_79 rfl (by omega) ?_
          refine j_goto (tgt := 20) hX dX8_respects_82 (by decide) ?_
          refine j_fg7 ?_
          refine j_fg8 ?_
          exact ih_20 _ (by omega) (lt_stepI hi (by unfold resP; exact beq_iff_eq.mpr h_74)) (by omega)
        · skip
          refine j_iconst hX dX8_respects_77 ⟨by decide, by decide⟩ ?_
          exact j_retZ hR dX8_respects_78 (by omega) ⟨by rw [if_neg]; exact allR_f (p := resP (V 16) q (V 15 3) (V 15 4 - 1 - p).toNat f) he.1 (by omega) (by unfold resP; exact beq_eq_false_iff_ne.mpr h_74), rfl⟩
  exact lp_20 _ _ (by omega) (by omega) (Nat.lt_succ_self _)
set_option maxHeartbeats 4000000 in
theorem ok_X8_isHomomorphic {V : VV} {q : Nat} (ho9 : RO V 15) (ht : TR V 15) (hg : GP V 13 q) (h3 : V 15 3 = gO q) : Ok NC yX8_isHomomorphic cX8_isHomomorphic 4 (some .boolean) 4 94 [vA 15, vA 13] V (pI (fun x9 V' => x9 = (if homB (V 16) q (V 15 3) (V 15 4) (V 15 5) = true then 1 else 0) ∧ V' = V)) := by
  refine Ok.intro (by decide +kernel) (Nat.le_of_ble_eq_true rfl) (fun X G hX hG hR hoa hoV => ?_)
  show J X G 0 [vA 15, vA 13, vU, vU] [] V
  have hb9 := ho9.b
  have hq9 := hg.1
  have hq6 := gO_le hq9
  refine j_iconst hX dX8_isHomomorphic_0 ⟨by decide, by decide⟩ ?_
  refine j_is2 hX dX8_isHomomorphic_1 rfl ?_
  have lp_2 : ∀ (f9 : Nat) (p : Int), (0 ≤ p ∧ p ≤ V 15 4) → (∀ j : Int, 0 ≤ j → j < p → ∀ f, 1 ≤ f → f < V 15 3 → resB (V 16) q (V 15 3) (V 15 5) (V 15 4 - 1 - j).toNat f = true) → ((V 15 4 - p).toNat) < f9 → J X G 2 [vA 15, vA 13, vI p, vU] [] V := by
    intro f9
    induction f9 with
    | zero => intro p _ _ hm; exact absurd hm (Nat.not_lt_zero _)
    | succ f9 ih_2 =>
      intro p hp hi hm
      refine j_il2 hX dX8_isHomomorphic_2 ?_
      refine j_al0 hX dX8_isHomomorphic_3 rfl ?_
      refine j_getI hX hG fl_X8_26 (Or.inl rfl) (by decide) dX8_isHomomorphic_4 ?_
      refine j_icmp_ge (tgt := 44) hX dX8_isHomomorphic_7 (by decide) (fun h_7 => ?_) (fun h_7 => ?_)
      · skip
        refine j_iconst hX dX8_isHomomorphic_44 ⟨by decide, by decide⟩ ?_
        exact j_retZ hR dX8_isHomomorphic_45 (by omega) ⟨by rw [if_pos]; exact homB_t.mpr (fun x h0 h1 => hi x h0 (by omega)), rfl⟩
      · skip
        refine j_iconst hX dX8_isHomomorphic_10 ⟨by decide, by decide⟩ ?_
        refine j_is3 hX dX8_isHomomorphic_11 rfl ?_
        have lp_12 : ∀ (f9 : Nat) (f : Int), (1 ≤ f ∧ f ≤ V 15 3) → (∀ x, 1 ≤ x → x < f → resB (V 16) q (V 15 3) (V 15 5) (V 15 4 - 1 - p).toNat x = true) → ((V 15 3 - f).toNat) < f9 → J X G 12 [vA 15, vA 13, vI p, vI f] [] V := by
          intro f9
          induction f9 with
          | zero => intro f _ _ hm; exact absurd hm (Nat.not_lt_zero _)
          | succ f9 ih_12 =>
            intro f hf hk hm
            refine j_il3 hX dX8_isHomomorphic_12 ?_
            refine j_al0 hX dX8_isHomomorphic_13 rfl ?_
            refine j_getI hX hG fl_X8_22 (Or.inl rfl) (by decide) dX8_isHomomorphic_14 ?_
            refine j_icmp_ge (tgt := 38) hX dX8_isHomomorphic_17 (by decide) (fun h_17 => ?_) (fun h_17 => ?_)
            · skip
              refine j_inc2 hX dX8_isHomomorphic_38 rfl (by omega) ?_
              refine j_goto (tgt := 2) hX dX8_isHomomorphic_41 (by decide) ?_
              refine j_fg3 ?_
              exact ih_2 _ (by omega) (lt_stepI hi (fun x h0 h1 => hk x h0 (by omega))) (by omega)
            · skip
              refine j_al0 hX dX8_isHomomorphic_20 rfl ?_
              refine j_al1 hX dX8_isHomomorphic_21 rfl ?_
              refine j_il2 hX dX8_isHomomorphic_22 ?_
              refine j_il3 hX dX8_isHomomorphic_23 ?_
              refine j_pVI3 (ci := 8) hX hG lk_X8_106 (ok_X8_respects (by first | assumption | omega | decide) (by first | assumption | omega | decide) (by first | assumption | omega | decide) (by first | assumption | omega | decide) (by first | assumption | omega | decide) (by first | assumption | omega | decide)) (by decide) rfl (Nat.le_of_ble_eq_true rfl) (Nat.le_of_ble_eq_true rfl) (Nat.le_of_ble_eq_true rfl) rfl dX8_isHomomorphic_24 ?_
              refine j_ifz_ne (tgt := 32) hX dX8_isHomomorphic_27 (by decide) (fun h_27 => ?_) (fun h_27 => ?_)
              · skip
                refine j_inc3 hX dX8_isHomomorphic_32 rfl (by omega) ?_
                refine j_goto (tgt := 12) hX dX8_isHomomorphic_35 (by decide) ?_
                exact ih_12 _ (by omega) (fun x h0 h1 => (Int.lt_or_eq_of_le (Int.lt_add_one_iff.mp h1)).elim (hk x h0) (fun e => e ▸ h_27)) (by omega)
              · skip
                refine j_iconst hX dX8_isHomomorphic_30 ⟨by decide, by decide⟩ ?_
                exact j_retZ hR dX8_isHomomorphic_31 (by omega) ⟨by rw [if_neg]; exact fun a => h_27 (homB_t.mp a p hp.1 (by omega) f hf.1 (by omega)), rfl⟩
        exact lp_12 _ _ (by omega) (by omega) (Nat.lt_succ_self _)
  exact lp_2 _ _ (by omega) (by omega) (Nat.lt_succ_self _)
set_option maxHeartbeats 4000000 in
theorem ok_X8_isPermutiveAt {V : VV} {p : Int} (ho9 : RO V 15) (ht : TR V 15) (hp : 0 ≤ p ∧ p < V 15 4) : Ok NC yX8_isPermutiveAt cX8_isPermutiveAt 4 (some .boolean) 3 66 [vA 15, vI p] V (pI (fun x9 V' => x9 = (if perB (V 16) (V 15 3) (V 15 5) (V 15 4 - 1 - p).toNat = true then 1 else 0) ∧ V' = V)) := by
  refine Ok.intro (by decide +kernel) (Nat.le_of_ble_eq_true rfl) (fun X G hX hG hR hoa hoV => ?_)
  show J X G 0 [vA 15, vI p, vU, vU] [] V
  have hb9 := ho9.b
  obtain ⟨N9, -, -, -, w9, w9b⟩ := ho9.pw hp
  refine j_al0 hX dX8_isPermutiveAt_0 rfl ?_
  refine j_il1 hX dX8_isPermutiveAt_1 ?_
  refine j_pVI1 (ci := 8) hX hG lk_X8_79 (ok_X8_weightOf (Or.inr (Or.inl rfl)) (by first | assumption | omega | decide) (by first | assumption | omega | decide)) (by decide) rfl (Nat.le_of_ble_eq_true rfl) (Nat.le_of_ble_eq_true rfl) (Nat.le_of_ble_eq_true rfl) rfl dX8_isPermutiveAt_2 ?_
  try dsimp only [Int.reduceAdd]
  refine j_is2 hX dX8_isPermutiveAt_5 rfl ?_
  refine j_iconst hX dX8_isPermutiveAt_6 ⟨by decide, by decide⟩ ?_
  refine j_is3 hX dX8_isPermutiveAt_7 rfl ?_
  have lp_8 : ∀ (f9 : Nat) (e : Int), (0 ≤ e ∧ e ≤ V 15 5) → (∀ j : Int, 0 ≤ j → j < e → perP (V 16) (V 15 3) (V 15 4 - 1 - p).toNat j = true) → ((V 15 5 - e).toNat) < f9 → J X G 8 [vA 15, vI p, vI (V 15 3 ^ (V 15 4 - 1 - p).toNat), vI e] [] V := by
    intro f9
    induction f9 with
    | zero => intro e _ _ hm; exact absurd hm (Nat.not_lt_zero _)
    | succ f9 ih_8 =>
      intro e he hi hm
      refine j_il3 hX dX8_isPermutiveAt_8 ?_
      refine j_al0 hX dX8_isPermutiveAt_9 rfl ?_
      refine j_getI hX hG fl_X8_36 (Or.inl rfl) (by decide) dX8_isPermutiveAt_10 ?_
      refine j_icmp_ge (tgt := 42) hX dX8_isPermutiveAt_13 (by decide) (fun h_13 => ?_) (fun h_13 => ?_)
      · skip
        refine j_iconst hX dX8_isPermutiveAt_42 ⟨by decide, by decide⟩ ?_
        exact j_retZ hR dX8_isPermutiveAt_43 (by omega) ⟨by rw [if_pos]; exact (allR (p := perP (V 16) (V 15 3) (V 15 4 - 1 - p).toNat)).mpr (fun j h0 h1 => hi j h0 (by omega)), rfl⟩
      · skip
        refine j_al0 hX dX8_isPermutiveAt_16 rfl ?_
        refine j_il3 hX dX8_isPermutiveAt_17 ?_
        refine j_il1 hX dX8_isPermutiveAt_18 ?_
        refine j_pVI2 (ci := 8) hX hG lk_X8_60 (ok_X8_stateOf (Or.inr (Or.inl rfl)) (by first | assumption | omega | decide) he.1 (by first | assumption | omega | decide)) (by decide) rfl (Nat.le_of_ble_eq_true rfl) (Nat.le_of_ble_eq_true rfl) (Nat.le_of_ble_eq_true rfl) rfl dX8_isPermutiveAt_19 ?_
        try dsimp only [Int.reduceAdd]
        refine j_if_ne (tgt := 36) hX dX8_isPermutiveAt_22 (by decide) (fun h_22 => ?_) (fun h_22 => ?_)
        · skip
          refine j_inc3 hX dX8_isPermutiveAt_36 rfl (by omega) ?_
          refine j_goto (tgt := 8) hX dX8_isPermutiveAt_39 (by decide) ?_
          exact ih_8 _ (by omega) (lt_stepI hi (by unfold perP; first | (rw [beq_eq_false_iff_ne.mpr h_22]; rfl) | (rw [beq_iff_eq.mpr h_31, Bool.or_true]))) (by omega)
        · skip
          have k9 : ∀ x, 0 ≤ x → x < V 15 3 → (0 ≤ x * V 15 3 ^ (V 15 4 - 1 - p).toNat ∧ x * V 15 3 ^ (V 15 4 - 1 - p).toNat ≤ 100000) ∧ 0 ≤ e + x * V 15 3 ^ (V 15 4 - 1 - p).toNat ∧ e + x * V 15 3 ^ (V 15 4 - 1 - p).toNat < V 15 5 := fun x h0 h1 => by
            have := ho9.rep hp (e := e) (d := x) (by omega) ⟨h0, h1⟩
            have h2 := ho9.dif hp (e := e) (d := x) ⟨h0, h1⟩
            have h3 := ho9.one hp (d := x) ⟨h0, h1⟩
            rw [h_22, Int.sub_zero] at this h2
            omega
          refine j_al0 hX dX8_isPermutiveAt_25 rfl ?_
          refine j_il3 hX dX8_isPermutiveAt_26 ?_
          refine j_il2 hX dX8_isPermutiveAt_27 ?_
          refine j_pVI2 (ci := 8) hX hG lk_X8_110 (ok_X8_isOneToOneFrom (by first | assumption | omega | decide) (by first | assumption | omega | decide) k9) (by decide) rfl (Nat.le_of_ble_eq_true rfl) (Nat.le_of_ble_eq_true rfl) (Nat.le_of_ble_eq_true rfl) rfl dX8_isPermutiveAt_28 ?_
          refine j_ifz_ne (tgt := 36) hX dX8_isPermutiveAt_31 (by decide) (fun h_31 => ?_) (fun h_31 => ?_)
          · skip
            refine j_inc3 hX dX8_isPermutiveAt_36 rfl (by omega) ?_
            refine j_goto (tgt := 8) hX dX8_isPermutiveAt_39 (by decide) ?_
            exact ih_8 _ (by omega) (lt_stepI hi (by unfold perP; first | (rw [beq_eq_false_iff_ne.mpr h_22]; rfl) | (rw [beq_iff_eq.mpr h_31, Bool.or_true]))) (by omega)
          · skip
            refine j_iconst hX dX8_isPermutiveAt_34 ⟨by decide, by decide⟩ ?_
            exact j_retZ hR dX8_isPermutiveAt_35 (by omega) ⟨by rw [if_neg]; exact allR_f (p := perP (V 16) (V 15 3) (V 15 4 - 1 - p).toNat) he.1 (by omega) (by unfold perP; rw [beq_iff_eq.mpr h_22, beq_eq_false_iff_ne.mpr h_31]; rfl), rfl⟩
  exact lp_8 _ _ (by omega) (by omega) (Nat.lt_succ_self _)
set_option maxHeartbeats 4000000 in
theorem ok_X7_becomeStepOf {V : VV} (ho9 : RO V 15) (ht : TR V 15) (hn : 1 ≤ V 29 1 ∧ V 29 1 ≤ 16) (hQ : ∀ k, 0 ≤ k → k < V 29 1 → 0 ≤ V 30 k ∧ V 30 k < V 15 3) : Ok NC yX7_becomeStepOf cX7_becomeStepOf 5 none 3 64 [vA 31, vA 29, vA 15] V (pV (fun V' => V' 31 1 = V 29 1 ∧ (∀ k, 0 ≤ k → k < V 29 1 → V' 32 k = stepF (V 16) (V 15 3) (V 15 4) (V 29 1) (V 30) k) ∧ sm2 31 32 V V')) := by
  refine Ok.intro (by decide +kernel) (Nat.le_of_ble_eq_true rfl) (fun X G hX hG hR hoa hoV => ?_)
  show J X G 0 [vA 31, vA 29, vA 15, vU, vU] [] V
  have hb9 := ho9.b
  refine j_al0 hX dX7_becomeStepOf_0 rfl ?_
  refine j_al1 hX dX7_becomeStepOf_1 rfl ?_
  refine j_getI hX hG fl_X7_15 (Or.inl rfl) (by decide) dX7_becomeStepOf_2 ?_
  refine j_putI hX hG fp_X7_15 rfl (by decide) dX7_becomeStepOf_5 ?_
  refine j_iconst hX dX7_becomeStepOf_8 ⟨by decide, by decide⟩ ?_
  refine j_is3 hX dX7_becomeStepOf_9 rfl ?_
  have lp_10 : ∀ (f9 : Nat) (k : Int) (W : VV), (0 ≤ k ∧ k ≤ V 29 1) → (W 31 1 = V 29 1) → (sm2 31 32 V W) → (∀ e, 0 ≤ e → e < k → W 32 e = stepF (V 16) (V 15 3) (V 15 4) (V 29 1) (V 30) e) → ((V 29 1 - k).toNat) < f9 → J X G 10 [vA 31, vA 29, vA 15, vI k, vU] [] W := by
    intro f9
    induction f9 with
    | zero => intro k W _ _ _ _ hm; exact absurd hm (Nat.not_lt_zero _)
    | succ f9 ih_10 =>
      intro k W hk hl hs hT hm
      refine j_il3 hX dX7_becomeStepOf_10 ?_
      refine j_al0 hX dX7_becomeStepOf_11 rfl ?_
      refine j_getI hX hG fl_X7_15 (Or.inl rfl) (by decide) dX7_becomeStepOf_12 ?_
      refine j_icmp_ge (tgt := 69) hX dX7_becomeStepOf_15 (by decide) (fun h_15 => ?_) (fun h_15 => ?_)
      · skip
        exact j_ret hR dX7_becomeStepOf_69 (⟨hl, fun e h0 h1 => hT e h0 (by omega), hs⟩)
      · skip
        have q29 : W 29 1 = V 29 1 := hs 29 1 (by decide) (by decide)
        have q3 : W 15 3 = V 15 3 := hs 15 3 (by decide) (by decide)
        have q4 : W 15 4 = V 15 4 := hs 15 4 (by decide) (by decide)
        have q30 : ∀ b, W 30 b = V 30 b := fun b => hs 30 b (by decide) (by decide)
        have q16 : ∀ b, W 16 b = V 16 b := fun b => hs 16 b (by decide) (by decide)
        have qo : RO W 15 := ho9.sm (fun b => hs 15 b (by decide) (by decide))
        have hm : ∀ z : Int, 0 ≤ W 30 (z % W 29 1) ∧ W 30 (z % W 29 1) < W 15 3 := fun z => by
          rw [q30, q29, q3]
          have hz := md_b z (n := V 29 1) hn.1
          exact hQ _ hz.1 hz.2
        refine j_il3 hX dX7_becomeStepOf_18 ?_
        refine j_al2 hX dX7_becomeStepOf_19 rfl ?_
        refine j_getI hX hG fl_X7_45 (Or.inl rfl) (by decide) dX7_becomeStepOf_20 ?_
        refine j_isub hX dX7_becomeStepOf_23 (by omega) ?_
        refine j_iconst hX dX7_becomeStepOf_24 ⟨by decide, by decide⟩ ?_
        refine j_iadd hX dX7_becomeStepOf_25 (by omega) ?_
        refine j_is4 hX dX7_becomeStepOf_26 rfl ?_
        refine j_al0 hX dX7_becomeStepOf_28 rfl ?_
        refine j_il3 hX dX7_becomeStepOf_29 ?_
        refine j_al2 hX dX7_becomeStepOf_30 rfl ?_
        refine j_al2 hX dX7_becomeStepOf_31 rfl ?_
        refine j_al1 hX dX7_becomeStepOf_32 rfl ?_
        refine j_il4 hX dX7_becomeStepOf_33 ?_
        refine j_pVI1 (ci := 7) hX hG lk_X7_50 (ok_X7_stateAround (by decide) (by first | assumption | omega | decide)) (by decide) rfl (Nat.le_of_ble_eq_true rfl) (Nat.le_of_ble_eq_true rfl) (Nat.le_of_ble_eq_true rfl) rfl dX7_becomeStepOf_35 ?_
        try dsimp only [Int.reduceAdd]
        refine j_al1 hX dX7_becomeStepOf_38 rfl ?_
        refine j_il4 hX dX7_becomeStepOf_39 ?_
        refine j_iconst hX dX7_becomeStepOf_41 ⟨by decide, by decide⟩ ?_
        refine j_iadd hX dX7_becomeStepOf_42 (by omega) ?_
        refine j_pVI1 (ci := 7) hX hG lk_X7_50 (ok_X7_stateAround (by decide) (by first | assumption | omega | decide)) (by decide) rfl (Nat.le_of_ble_eq_true rfl) (Nat.le_of_ble_eq_true rfl) (Nat.le_of_ble_eq_true rfl) rfl dX7_becomeStepOf_43 ?_
        try dsimp only [Int.reduceAdd]
        refine j_al1 hX dX7_becomeStepOf_46 rfl ?_
        refine j_il4 hX dX7_becomeStepOf_47 ?_
        refine j_iconst hX dX7_becomeStepOf_49 ⟨by decide, by decide⟩ ?_
        refine j_iadd hX dX7_becomeStepOf_50 (by omega) ?_
        refine j_pVI1 (ci := 7) hX hG lk_X7_50 (ok_X7_stateAround (by decide) (by first | assumption | omega | decide)) (by decide) rfl (Nat.le_of_ble_eq_true rfl) (Nat.le_of_ble_eq_true rfl) (Nat.le_of_ble_eq_true rfl) rfl dX7_becomeStepOf_51 ?_
        try dsimp only [Int.reduceAdd]
        refine j_pVI3 (ci := 8) hX hG lk_X7_53 (ok_X8_wordOf (Or.inr (Or.inl rfl)) (by first | assumption | omega | decide) (hm _) (hm _) (Or.inr (hm _))) (by decide) rfl (Nat.le_of_ble_eq_true rfl) (Nat.le_of_ble_eq_true rfl) (Nat.le_of_ble_eq_true rfl) rfl dX7_becomeStepOf_54 ?_
        try dsimp only [Int.reduceAdd]
        refine j_pVI1 (ci := 8) hX hG lk_X7_57 (ok_X8_gives (Or.inr (Or.inl rfl)) (by have h8 := qo.word (hm (k - W 15 4 + 2)) (hm (k - W 15 4 + 2 + 1)) (hm (k - W 15 4 + 2 + 2)); have h7 := qo.b; omega)) (by decide) rfl (Nat.le_of_ble_eq_true rfl) (Nat.le_of_ble_eq_true rfl) (Nat.le_of_ble_eq_true rfl) rfl dX7_becomeStepOf_57 ?_
        try dsimp only [Int.reduceAdd]
        refine j_cVV2 (ci := 7) hX hG lk_X7_31 (ok_X7_setTo (by decide) (by first | assumption | omega | decide)) (by decide) rfl (Nat.le_of_ble_eq_true rfl) (Nat.le_of_ble_eq_true rfl) (Nat.le_of_ble_eq_true rfl) rfl dX7_becomeStepOf_60 (fun V_60 h_60 => ?_)
        subst h_60
        try dsimp only [Int.reduceAdd]
        refine j_inc3 hX dX7_becomeStepOf_63 rfl (by omega) ?_
        refine j_goto (tgt := 10) hX dX7_becomeStepOf_66 (by decide) ?_
        refine j_fg4 ?_
        exact ih_10 _ _ (by omega) (by rw [up_n _ (by omega)]; exact hl) (sm2_u hs (Or.inr rfl)) (lt_stepI (fun b h8 h9 => by rw [up_n _ (by omega)]; exact hT b h8 h9) (by rw [up_s]; simp only [q30, q29, q16, q3, q4]; exact stepF_e hb9.2.1 hk.1 (by omega))) (by omega)
  exact lp_10 _ _ _ (by omega) (up_s ..) (sm2_u sm2_0 (Or.inl rfl)) (by omega) (Nat.lt_succ_self _)
