theorem NB_e9 {x b : Int} (h : ab x ≤ b) : -b ≤ x ∧ x ≤ b := by rcases ab_d x with q | q <;> omega

set_option maxHeartbeats 4000000 in
theorem ok_X11_commonDivisor {V : VV} {a b : Int} (ha : -9000000000000000000 ≤ a ∧ a ≤ 9000000000000000000) (hb : -9000000000000000000 ≤ b ∧ b ≤ 9000000000000000000) : Ok NC yX11_commonDivisor cX11_commonDivisor 11 (some .long) 1 21 [vL a, vL b] V (pL (fun x9 V' => x9 = (Int.gcd a b : Int) ∧ V' = V)) := by
  refine Ok.intro (by decide +kernel) (Nat.le_of_ble_eq_true rfl) (fun X G hX hG hR hoa hoV => ?_)
  show J X G 0 [vL a, vU, vL b, vU, vU, vU, vU, vU, vU, vU, vU] [] V
  have hab1 := Int.natAbs_of_nonneg (Int.le_refl 0)
  have hA : (0 : Int) ≤ (a.natAbs : Int) ∧ (a.natAbs : Int) ≤ 9000000000000000000 := by omega
  have hB : (0 : Int) ≤ (b.natAbs : Int) ∧ (b.natAbs : Int) ≤ 9000000000000000000 := by omega
  have hfb := fb_101
  refine j_ll0 hX dX11_commonDivisor_0 ?_
  refine j_pSL1 hX hG lk_X11_389 (ok_J9_abs_067f4 (by first | assumption | omega | decide)) (Nat.le_of_ble_eq_true rfl) (Nat.le_of_ble_eq_true rfl) (Nat.le_of_ble_eq_true rfl) rfl dX11_commonDivisor_1 ?_
  refine j_ls4 hX dX11_commonDivisor_4 rfl ?_
  refine j_ll2 hX dX11_commonDivisor_6 ?_
  refine j_pSL1 hX hG lk_X11_389 (ok_J9_abs_067f4 (by first | assumption | omega | decide)) (Nat.le_of_ble_eq_true rfl) (Nat.le_of_ble_eq_true rfl) (Nat.le_of_ble_eq_true rfl) rfl dX11_commonDivisor_7 ?_
  refine j_ls6 hX dX11_commonDivisor_10 rfl ?_
  refine j_iconst hX dX11_commonDivisor_12 ⟨by decide, by decide⟩ ?_
  refine j_is8 hX dX11_commonDivisor_13 rfl ?_
  have lp_15 : ∀ (f9 : Nat) (x y t : Int), (0 ≤ x ∧ 0 ≤ y) → (0 ≤ t ∧ t ≤ 100) → (Int.gcd x y = Int.gcd a b) → ((t = 0 ∧ y ≤ 9000000000000000000) ∨ (1 ≤ t ∧ EUK (100 - t).toNat x y)) → ((101 - t).toNat) < f9 → J X G 15 [vL a, vU, vL b, vU, vL x, vU, vL y, vU, vI t, vU, vU] [] V := by
    intro f9
    induction f9 with
    | zero => intro x y t _ _ _ _ hm; exact absurd hm (Nat.not_lt_zero _)
    | succ f9 ih_15 =>
      intro x y t hx ht hg hk hm
      refine j_il8 hX dX11_commonDivisor_15 ?_
      refine j_bipush hX dX11_commonDivisor_17 (by decide) ⟨by decide, by decide⟩ ?_
      refine j_icmp_ge (tgt := 50) hX dX11_commonDivisor_19 (by decide) (fun h_19 => ?_) (fun h_19 => ?_)
      · skip
        refine j_ll4 hX dX11_commonDivisor_50 ?_
        exact j_retL hR dX11_commonDivisor_52 ⟨by first | (have e : y = 0 := h_26; rw [← hg, e, Int.gcd_zero_right]; omega) | (have e : y = 0 := (by rcases hk with h | h; omega; (have h2 := h.2; rw [show (100 - t).toNat = 0 by omega] at h2; exact EUK_0 h2)); rw [← hg, e, Int.gcd_zero_right]; omega), rfl⟩
      · skip
        refine j_ll6 hX dX11_commonDivisor_22 ?_
        refine j_lconst (x := 0) hX dX11_commonDivisor_24 rfl ⟨by decide, by decide⟩ ?_
        refine j_lcmp_eq (tgt := 50) hX dX11_commonDivisor_25 dX11_commonDivisor_26 (by decide) (fun h_26 => ?_) (fun h_26 => ?_)
        · skip
          refine j_ll4 hX dX11_commonDivisor_50 ?_
          exact j_retL hR dX11_commonDivisor_52 ⟨by first | (have e : y = 0 := h_26; rw [← hg, e, Int.gcd_zero_right]; omega) | (have e : y = 0 := (by rcases hk with h | h; omega; (have h2 := h.2; rw [show (100 - t).toNat = 0 by omega] at h2; exact EUK_0 h2)); rw [← hg, e, Int.gcd_zero_right]; omega), rfl⟩
        · skip
          have hm9 := md_b x (n := y) (by have := hx.2; omega)
          refine j_ll4 hX dX11_commonDivisor_29 ?_
          refine j_ll6 hX dX11_commonDivisor_31 ?_
          refine j_lrem hX dX11_commonDivisor_33 (by have := hx.2; omega) hx.1 ?_
          refine j_ls9 hX dX11_commonDivisor_34 rfl ?_
          refine j_ll6 hX dX11_commonDivisor_36 ?_
          refine j_ls4 hX dX11_commonDivisor_38 rfl ?_
          refine j_ll9 hX dX11_commonDivisor_40 ?_
          refine j_ls6 hX dX11_commonDivisor_42 rfl ?_
          refine j_inc8 hX dX11_commonDivisor_44 rfl (by omega) ?_
          refine j_goto (tgt := 15) hX dX11_commonDivisor_47 (by decide) ?_
          refine j_fg9 ?_
          exact ih_15 _ _ _ ⟨hx.2, hm9.1⟩ (by omega) (by rw [gcd_st hx.1 hx.2]; exact hg) (Or.inr ⟨by omega, by rcases hk with h | h; (exact ⟨hm9.1, hm9.2, Or.inr (by have e : fbn ((100 - (t + 1)).toNat + 2) = fbn 101 := (by rw [show (100 - (t + 1)).toNat + 2 = 101 by omega]); omega)⟩); (exact EUK_s (by rw [show (100 - (t + 1)).toNat + 1 = (100 - t).toNat by omega]; exact h.2) h_26)⟩) (by omega)
  exact lp_15 _ _ _ _ ⟨hA.1, hB.1⟩ ⟨by decide, by decide⟩ (by rw [Int.gcd_eq_natAbs_gcd_natAbs, Int.natAbs_natCast, Int.natAbs_natCast]; rfl) (Or.inl ⟨rfl, hB.2⟩) (Nat.lt_succ_self _)
set_option maxHeartbeats 4000000 in
theorem ok_X1_addTerm {V : VV} {s d : Int} (hs9 : 0 ≤ s ∧ s < 6) (hd : -1 ≤ d ∧ d ≤ 1) (hB : -1000 ≤ V 46 s ∧ V 46 s ≤ 1000) : Ok NC yX1_addTerm cX1_addTerm 3 none 1 23 [vA 44, vI s, vI d] V (pV (fun V' => V' = up V 46 s (V 46 s + d))) := by
  refine Ok.intro (by decide +kernel) (Nat.le_of_ble_eq_true rfl) (fun X G hX hG hR hoa hoV => ?_)
  show J X G 0 [vA 44, vI s, vI d] [] V
  refine j_al0 hX dX1_addTerm_0 rfl ?_
  refine j_getR (q := 46) hX hG fl_X1_15 rfl rfl (by decide) dX1_addTerm_1 ?_
  refine j_il1 hX dX1_addTerm_4 ?_
  refine j_al0 hX dX1_addTerm_5 rfl ?_
  refine j_getR (q := 46) hX hG fl_X1_15 rfl rfl (by decide) dX1_addTerm_6 ?_
  refine j_il1 hX dX1_addTerm_9 ?_
  refine j_pSL2 hX hG lk_X1_86 (ok_X11_bitsAt_in (n := 6) (by decide) (by first | assumption | decide) hs9) (Nat.le_of_ble_eq_true rfl) (Nat.le_of_ble_eq_true rfl) (Nat.le_of_ble_eq_true rfl) rfl dX1_addTerm_10 ?_
  refine j_il2 hX dX1_addTerm_13 ?_
  refine j_i2l hX dX1_addTerm_14 ?_
  refine j_ladd hX dX1_addTerm_15 (by omega) ?_
  refine j_cSV3 hX hG lk_X1_90 (ok_X11_putBits_in (n := 6) (by decide) (by first | assumption | decide) hs9) (Nat.le_of_ble_eq_true rfl) (Nat.le_of_ble_eq_true rfl) (Nat.le_of_ble_eq_true rfl) rfl dX1_addTerm_16 (fun V_16 h_16 => ?_)
  subst h_16
  exact j_ret hR dX1_addTerm_19 rfl
set_option maxHeartbeats 4000000 in
theorem ok_X1_addPotential {V : VV} {p d : Int} (ho9 : RO V 15) (ht : TR V 15) (hp : 0 ≤ p ∧ p < V 15 6) (hd : -1 ≤ d ∧ d ≤ 1) (hB : ∀ x, 0 ≤ x → x < 6 → -900 ≤ V 46 x ∧ V 46 x ≤ 900) : Ok NC yX1_addPotential cX1_addPotential 4 none 2 45 [vA 44, vA 15, vI p, vI d] V (pV (fun V' => (∀ x, V' 46 x = V 46 x + d * ind (V 16 p) x + d * ind (V 16 (p / V 15 3)) x) ∧ fr [46] V V')) := by
  refine Ok.intro (by decide +kernel) (Nat.le_of_ble_eq_true rfl) (fun X G hX hG hR hoa hoV => ?_)
  show J X G 0 [vA 44, vA 15, vI p, vI d] [] V
  have hb9 := ho9.b
  have hnn := ho9.n
  have hle : V 15 6 ≤ V 15 5 := by rw [hnn]; have := Int.mul_le_mul_of_nonneg_left (a := 1) (b := V 15 3) (c := V 15 6) (by omega) (by omega); omega
  have hq : 0 ≤ p / V 15 3 ∧ p / V 15 3 < V 15 6 := ⟨Int.ediv_nonneg hp.1 (by omega), Int.lt_of_le_of_lt (Int.ediv_le_self _ hp.1) hp.2⟩
  have t1 : 0 ≤ V 16 p ∧ V 16 p < V 15 3 := ht p hp.1 (by omega)
  have t2 : 0 ≤ V 16 (p / V 15 3) ∧ V 16 (p / V 15 3) < V 15 3 := ht _ hq.1 (by omega)
  refine j_al0 hX dX1_addPotential_0 rfl ?_
  refine j_al1 hX dX1_addPotential_1 rfl ?_
  refine j_il2 hX dX1_addPotential_2 ?_
  refine j_pVI1 (ci := 8) hX hG lk_X1_64 (ok_X8_gives (Or.inr (Or.inl rfl)) (by omega)) (by decide) rfl (Nat.le_of_ble_eq_true rfl) (Nat.le_of_ble_eq_true rfl) (Nat.le_of_ble_eq_true rfl) rfl dX1_addPotential_3 ?_
  try dsimp only [Int.reduceAdd]
  refine j_il3 hX dX1_addPotential_6 ?_
  refine j_cVV2 (ci := 1) hX hG lk_X1_68 (ok_X1_addTerm (by omega) (by first | assumption | omega | decide) (by have := hB (V 16 p) t1.1 (by omega); omega)) (by decide) rfl (Nat.le_of_ble_eq_true rfl) (Nat.le_of_ble_eq_true rfl) (Nat.le_of_ble_eq_true rfl) rfl dX1_addPotential_7 (fun V_7 h_7 => ?_)
  subst h_7
  refine j_al0 hX dX1_addPotential_10 rfl ?_
  refine j_al1 hX dX1_addPotential_11 rfl ?_
  refine j_il2 hX dX1_addPotential_12 ?_
  refine j_al1 hX dX1_addPotential_13 rfl ?_
  refine j_getI hX hG fl_X1_33 (Or.inl rfl) (by decide) dX1_addPotential_14 ?_
  refine j_eqS (st' := [vI (V 15 3), vI p, vA 15, vA 44]) (by rw [up_n _ (by omega)]) ?_
  refine j_pSI2 hX hG lk_X1_75 (ok_X11_quotient_in (by omega) (by omega)) (Nat.le_of_ble_eq_true rfl) (Nat.le_of_ble_eq_true rfl) (Nat.le_of_ble_eq_true rfl) rfl dX1_addPotential_17 ?_
  refine j_pVI1 (ci := 8) hX hG lk_X1_64 (ok_X8_gives (Or.inr (Or.inl rfl)) (by omega)) (by decide) rfl (Nat.le_of_ble_eq_true rfl) (Nat.le_of_ble_eq_true rfl) (Nat.le_of_ble_eq_true rfl) rfl dX1_addPotential_20 ?_
  try dsimp only [Int.reduceAdd]
  refine j_eqS (st' := [vI (V 16 (p / V 15 3)), vA 44]) (by rw [up_n _ (by omega)]) ?_
  refine j_il3 hX dX1_addPotential_23 ?_
  refine j_cVV2 (ci := 1) hX hG lk_X1_68 (ok_X1_addTerm (by omega) (by first | assumption | omega | decide) (by rw [up_ind]; have := hB (V 16 (p / V 15 3)) t2.1 (by omega); rcases ind_d (V 16 p) (V 16 (p / V 15 3)) with h | h <;> rw [h.2] <;> omega)) (by decide) rfl (Nat.le_of_ble_eq_true rfl) (Nat.le_of_ble_eq_true rfl) (Nat.le_of_ble_eq_true rfl) rfl dX1_addPotential_24 (fun V_24 h_24 => ?_)
  subst h_24
  exact j_ret hR dX1_addPotential_27 ⟨fun x => by rw [up_ind, up_ind], fr_u (fr_u fr_0 (by decide)) (by decide)⟩
set_option maxHeartbeats 4000000 in
theorem ok_X1_writeEquation {V : VV} {e : Int} (ho9 : RO V 15) (ht : TR V 15) (he : 0 ≤ e ∧ e < V 15 5) : Ok NC yX1_writeEquation cX1_writeEquation 3 none 3 68 [vA 44, vA 15, vI e] V (pV (fun V' => (∀ x, 0 ≤ x → x < 6 → V' 46 x = eqV (V 16) (V 15 3) (V 15 6) e x) ∧ fr [46] V V')) := by
  refine Ok.intro (by decide +kernel) (Nat.le_of_ble_eq_true rfl) (fun X G hX hG hR hoa hoV => ?_)
  show J X G 0 [vA 44, vA 15, vI e] [] V
  have hb9 := ho9.b
  have hnn := ho9.n
  have hd1 : 0 ≤ e / V 15 3 ∧ e / V 15 3 < V 15 6 := nd_div6 ho9 he.1 he.2
  have hd2 : 0 ≤ e / V 15 6 ∧ e / V 15 6 < V 15 3 := ⟨Int.ediv_nonneg he.1 (by omega), Int.ediv_lt_of_lt_mul (by omega) (by rw [Int.mul_comm, ← hnn]; exact he.2)⟩
  have hm9 := md_b e (n := V 15 6) (by omega)
  have t1 : 0 ≤ V 16 e ∧ V 16 e < V 15 3 := ht e he.1 he.2
  refine j_al0 hX dX1_writeEquation_0 rfl ?_
  refine j_getR (q := 46) hX hG fl_X1_15 rfl rfl (by decide) dX1_writeEquation_1 ?_
  refine j_lconst (x := 0) hX dX1_writeEquation_4 rfl ⟨by decide, by decide⟩ ?_
  refine j_cSV2 hX hG lk_X1_37 (ok_J7_fill_d0a16 (n := 6) (by decide) (by first | assumption | decide)) (Nat.le_of_ble_eq_true rfl) (Nat.le_of_ble_eq_true rfl) (Nat.le_of_ble_eq_true rfl) rfl dX1_writeEquation_5 (fun V_5 h_5 => ?_)
  subst h_5
  have hF : fr [46] V (fillV V 46 6 0) := fr_f fr_0 (by decide)
  obtain ⟨W0, hW0⟩ : ∃ W, W = fillV V 46 6 0 := ⟨_, rfl⟩
  have hz0 : ∀ x, 0 ≤ x → x < 6 → W0 46 x = 0 := fun x h0 h1 => by rw [hW0, fill_in _ h0 h1]
  rw [← hW0] at hF ⊢
  clear hW0
  refine j_al0 hX dX1_writeEquation_8 rfl ?_
  refine j_al1 hX dX1_writeEquation_9 rfl ?_
  refine j_il2 hX dX1_writeEquation_10 ?_
  refine j_pVI1 (ci := 8) hX hG lk_X1_64 (ok_X8_gives (Or.inr (Or.inl rfl)) (by omega)) (by decide) rfl (Nat.le_of_ble_eq_true rfl) (Nat.le_of_ble_eq_true rfl) (Nat.le_of_ble_eq_true rfl) rfl dX1_writeEquation_11 ?_
  try dsimp only [Int.reduceAdd]
  refine j_eqS (st' := [vI (V 16 e), vA 44]) (by rw [hF 16 e (by decide)]) ?_
  refine j_iconst hX dX1_writeEquation_14 ⟨by decide, by decide⟩ ?_
  refine j_cVV2 (ci := 1) hX hG lk_X1_68 (ok_X1_addTerm (by omega) (by first | assumption | omega | decide) (by rw [hz0 _ t1.1 (by omega)]; omega)) (by decide) rfl (Nat.le_of_ble_eq_true rfl) (Nat.le_of_ble_eq_true rfl) (Nat.le_of_ble_eq_true rfl) rfl dX1_writeEquation_15 (fun V_15 h_15 => ?_)
  subst h_15
  refine j_al0 hX dX1_writeEquation_18 rfl ?_
  refine j_il2 hX dX1_writeEquation_19 ?_
  refine j_al1 hX dX1_writeEquation_20 rfl ?_
  refine j_getI hX hG fl_X1_72 (Or.inl rfl) (by decide) dX1_writeEquation_21 ?_
  refine j_eqS (st' := [vI (V 15 6), vI e, vA 44]) (by rw [up_n _ (by omega), hF 15 6 (by decide)]) ?_
  refine j_pSI2 hX hG lk_X1_75 (ok_X11_quotient_in he.1 (by omega)) (Nat.le_of_ble_eq_true rfl) (Nat.le_of_ble_eq_true rfl) (Nat.le_of_ble_eq_true rfl) rfl dX1_writeEquation_24 ?_
  refine j_iconst hX dX1_writeEquation_27 ⟨by decide, by decide⟩ ?_
  refine j_cVV2 (ci := 1) hX hG lk_X1_68 (ok_X1_addTerm (by omega) (by first | assumption | omega | decide) (by rw [up_ind, hz0 _ hd2.1 (by omega)]; rcases ind_d (V 16 e) (e / V 15 6) with h | h <;> rw [h.2] <;> omega)) (by decide) rfl (Nat.le_of_ble_eq_true rfl) (Nat.le_of_ble_eq_true rfl) (Nat.le_of_ble_eq_true rfl) rfl dX1_writeEquation_28 (fun V_28 h_28 => ?_)
  subst h_28
  obtain ⟨W2, hW2⟩ : ∃ W, W = up (up W0 46 (V 16 e) (W0 46 (V 16 e) + 1)) 46 (e / V 15 6) ((up W0 46 (V 16 e) (W0 46 (V 16 e) + 1)) 46 (e / V 15 6) + -1) := ⟨_, rfl⟩
  have hz2 : ∀ x, 0 ≤ x → x < 6 → W2 46 x = 0 + 1 * ind (V 16 e) x + -1 * ind (e / V 15 6) x := fun x h0 h1 => by rw [hW2, up_ind, up_ind, hz0 x h0 h1]
  have hF2 : fr [46] V W2 := by rw [hW2]; exact fr_u (fr_u hF (by decide)) (by decide)
  rw [← hW2]
  clear hW2
  have w15 : ∀ b, W2 15 b = V 15 b := fun b => hF2 15 b (by decide)
  have w16 : W2 16 = V 16 := funext fun b => hF2 16 b (by decide)
  have roW : RO W2 15 := ho9.sm w15
  have trW : TR W2 15 := fun e h0 h1 => by rw [show W2 (15 + 1) e = V (15 + 1) e from congrFun w16 e, w15]; exact ht e h0 (by rw [w15] at h1; exact h1)
  refine j_al0 hX dX1_writeEquation_31 rfl ?_
  refine j_al1 hX dX1_writeEquation_32 rfl ?_
  refine j_il2 hX dX1_writeEquation_33 ?_
  refine j_al1 hX dX1_writeEquation_34 rfl ?_
  refine j_getI hX hG fl_X1_33 (Or.inl rfl) (by decide) dX1_writeEquation_35 ?_
  refine j_eqS (st' := [vI (V 15 3), vI e, vA 15, vA 44]) (by rw [w15]) ?_
  refine j_pSI2 hX hG lk_X1_75 (ok_X11_quotient_in he.1 (by omega)) (Nat.le_of_ble_eq_true rfl) (Nat.le_of_ble_eq_true rfl) (Nat.le_of_ble_eq_true rfl) rfl dX1_writeEquation_38 ?_
  refine j_iconst hX dX1_writeEquation_41 ⟨by decide, by decide⟩ ?_
  refine j_cVV3 (ci := 1) hX hG lk_X1_79 (ok_X1_addPotential roW trW (by rw [w15]; exact hd1) (by first | assumption | omega | decide) (fun x h0 h1 => by rw [hz2 x h0 h1]; rcases ind_d (V 16 e) x with h | h <;> rcases ind_d (e / V 15 6) x with q | q <;> rw [h.2, q.2] <;> omega)) (by decide) rfl (Nat.le_of_ble_eq_true rfl) (Nat.le_of_ble_eq_true rfl) (Nat.le_of_ble_eq_true rfl) rfl dX1_writeEquation_42 (fun V_42 h_42 => ?_)
  obtain ⟨z_42, f_42⟩ := h_42
  rw [w16, w15] at z_42
  have hF4 : fr [46] V V_42 := fr_t hF2 f_42
  have v15 : ∀ b, V_42 15 b = V 15 b := fun b => hF4 15 b (by decide)
  have v16 : V_42 16 = V 16 := funext fun b => hF4 16 b (by decide)
  have roV : RO V_42 15 := ho9.sm v15
  have trV : TR V_42 15 := fun e h0 h1 => by rw [show V_42 (15 + 1) e = V (15 + 1) e from congrFun v16 e, v15]; exact ht e h0 (by rw [v15] at h1; exact h1)
  refine j_al0 hX dX1_writeEquation_45 rfl ?_
  refine j_al1 hX dX1_writeEquation_46 rfl ?_
  refine j_il2 hX dX1_writeEquation_47 ?_
  refine j_al1 hX dX1_writeEquation_48 rfl ?_
  refine j_getI hX hG fl_X1_72 (Or.inl rfl) (by decide) dX1_writeEquation_49 ?_
  refine j_eqS (st' := [vI (V 15 6), vI e, vA 15, vA 44]) (by rw [v15]) ?_
  refine j_pSI2 hX hG lk_X1_83 (ok_X11_remainder_in he.1 (by omega)) (Nat.le_of_ble_eq_true rfl) (Nat.le_of_ble_eq_true rfl) (Nat.le_of_ble_eq_true rfl) rfl dX1_writeEquation_52 ?_
  refine j_iconst hX dX1_writeEquation_55 ⟨by decide, by decide⟩ ?_
  refine j_cVV3 (ci := 1) hX hG lk_X1_79 (ok_X1_addPotential roV trV (by rw [v15]; exact hm9) (by first | assumption | omega | decide) (fun x h0 h1 => by rw [z_42, hz2 x h0 h1]; rcases ind_d (V 16 e) x with h | h <;> rcases ind_d (e / V 15 6) x with q | q <;> rcases ind_d (V 16 (e / V 15 3)) x with r | r <;> rcases ind_d (V 16 (e / V 15 3 / V 15 3)) x with y | y <;> rw [h.2, q.2, r.2, y.2] <;> omega)) (by decide) rfl (Nat.le_of_ble_eq_true rfl) (Nat.le_of_ble_eq_true rfl) (Nat.le_of_ble_eq_true rfl) rfl dX1_writeEquation_56 (fun V_56 h_56 => ?_)
  obtain ⟨z_56, f_56⟩ := h_56
  rw [v16, v15] at z_56
  exact j_ret hR dX1_writeEquation_59 ⟨fun x h0 h1 => by rw [z_56, z_42, hz2 x h0 h1]; rfl, fr_t hF4 f_56⟩
set_option maxHeartbeats 4000000 in
theorem ok_X1_numberOf {V : VV} {r x : Int} (hr : 0 ≤ r ∧ r < 6) (hx9 : 0 ≤ x ∧ x < 6) : Ok NC yX1_numberOf cX1_numberOf 3 (some .long) 1 21 [vA 44, vI r, vI x] V (pL (fun x9 V' => x9 = V 45 (r * 6 + x) ∧ V' = V)) := by
  refine Ok.intro (by decide +kernel) (Nat.le_of_ble_eq_true rfl) (fun X G hX hG hR hoa hoV => ?_)
  show J X G 0 [vA 44, vI r, vI x] [] V
  refine j_al0 hX dX1_numberOf_0 rfl ?_
  refine j_getR (q := 45) hX hG fl_X1_9 rfl rfl (by decide) dX1_numberOf_1 ?_
  refine j_il1 hX dX1_numberOf_4 ?_
  refine j_bipush hX dX1_numberOf_5 (by decide) ⟨by decide, by decide⟩ ?_
  refine j_imul hX dX1_numberOf_7 (by omega) ?_
  refine j_il2 hX dX1_numberOf_8 ?_
  refine j_iadd hX dX1_numberOf_9 (by omega) ?_
  refine j_pSL2 hX hG lk_X1_86 (ok_X11_bitsAt_in (n := 36) (by decide) (by first | assumption | decide) (by omega)) (Nat.le_of_ble_eq_true rfl) (Nat.le_of_ble_eq_true rfl) (Nat.le_of_ble_eq_true rfl) rfl dX1_numberOf_10 ?_
  exact j_retL hR dX1_numberOf_13 ⟨by first | rfl | omega | (exfalso; omega), rfl⟩
set_option maxHeartbeats 4000000 in
theorem ok_X1_isBound {V : VV} {x : Int} (hx9 : 0 ≤ x ∧ x < 6) : Ok NC yX1_isBound cX1_isBound 2 (some .boolean) 2 43 [vA 44, vI x] V (pI (fun x9 V' => x9 = (if V 45 (x * 6 + x) ≠ 0 then 1 else 0) ∧ V' = V)) := by
  refine Ok.intro (by decide +kernel) (Nat.le_of_ble_eq_true rfl) (fun X G hX hG hR hoa hoV => ?_)
  show J X G 0 [vA 44, vI x] [] V
  refine j_al0 hX dX1_isBound_0 rfl ?_
  refine j_il1 hX dX1_isBound_1 ?_
  refine j_il1 hX dX1_isBound_2 ?_
  refine j_pVL2 (ci := 1) hX hG lk_X1_94 (ok_X1_numberOf hx9 hx9) (by decide) rfl (Nat.le_of_ble_eq_true rfl) (Nat.le_of_ble_eq_true rfl) (Nat.le_of_ble_eq_true rfl) rfl dX1_isBound_3 ?_
  refine j_lconst (x := 0) hX dX1_isBound_6 rfl ⟨by decide, by decide⟩ ?_
  refine j_lcmp_eq (tgt := 15) hX dX1_isBound_7 dX1_isBound_8 (by decide) (fun h_8 => ?_) (fun h_8 => ?_)
  · skip
    refine j_iconst hX dX1_isBound_15 ⟨by decide, by decide⟩ ?_
    exact j_retZ hR dX1_isBound_16 (by omega) ⟨by first | (rw [if_pos h_8]) | (rw [if_neg (fun q => q h_8)]), rfl⟩
  · skip
    refine j_iconst hX dX1_isBound_11 ⟨by decide, by decide⟩ ?_
    refine j_goto (tgt := 16) hX dX1_isBound_12 (by decide) ?_
    exact j_retZ hR dX1_isBound_16 (by omega) ⟨by first | (rw [if_pos h_8]) | (rw [if_neg (fun q => q h_8)]), rfl⟩
set_option maxHeartbeats 4000000 in
theorem ok_X1_keepEquation {V : VV} {r : Int} (hg : 2 ≤ V 44 5 ∧ V 44 5 ≤ 6) (hr : 0 ≤ r ∧ r < 6) : Ok NC yX1_keepEquation cX1_keepEquation 3 none 1 23 [vA 44, vI r] V (pV (fun V' => (∀ x, 0 ≤ x → x < V 44 5 → V' 45 (r * 6 + x) = V 46 x) ∧ (∀ i, (i < r * 6 ∨ r * 6 + 6 ≤ i) → V' 45 i = V 45 i) ∧ fr [45] V V')) := by
  refine Ok.intro (by decide +kernel) (Nat.le_of_ble_eq_true rfl) (fun X G hX hG hR hoa hoV => ?_)
  show J X G 0 [vA 44, vI r, vU] [] V
  refine j_iconst hX dX1_keepEquation_0 ⟨by decide, by decide⟩ ?_
  refine j_is2 hX dX1_keepEquation_1 rfl ?_
  have lp_2 : ∀ (f9 : Nat) (x : Int) (W : VV), (0 ≤ x ∧ x ≤ V 44 5) → (fr [45] V W) → (∀ y, 0 ≤ y → y < x → W 45 (r * 6 + y) = V 46 y) → (∀ i, (i < r * 6 ∨ r * 6 + 6 ≤ i) → W 45 i = V 45 i) → ((V 44 5 - x).toNat) < f9 → J X G 2 [vA 44, vI r, vI x] [] W := by
    intro f9
    induction f9 with
    | zero => intro x W _ _ _ _ hm; exact absurd hm (Nat.not_lt_zero _)
    | succ f9 ih_2 =>
      intro x W hx hs h1 h2 hm
      refine j_il2 hX dX1_keepEquation_2 ?_
      refine j_al0 hX dX1_keepEquation_3 rfl ?_
      refine j_getI hX hG fl_X1_36 (Or.inl rfl) (by decide) dX1_keepEquation_4 ?_
      refine j_icmp_ge (tgt := 37) hX dX1_keepEquation_7 (by decide) (fun h_7 => ?_) (fun h_7 => ?_)
      · skip
        exact j_ret hR dX1_keepEquation_37 ⟨fun y a b => h1 y a (by have := hs 44 5 (by decide); omega), h2, hs⟩
      · skip
        have q5 : W 44 5 = V 44 5 := hs 44 5 (by decide)
        refine j_al0 hX dX1_keepEquation_10 rfl ?_
        refine j_getR (q := 45) hX hG fl_X1_9 rfl rfl (by decide) dX1_keepEquation_11 ?_
        refine j_il1 hX dX1_keepEquation_14 ?_
        refine j_bipush hX dX1_keepEquation_15 (by decide) ⟨by decide, by decide⟩ ?_
        refine j_imul hX dX1_keepEquation_17 (by omega) ?_
        refine j_il2 hX dX1_keepEquation_18 ?_
        refine j_iadd hX dX1_keepEquation_19 (by omega) ?_
        refine j_al0 hX dX1_keepEquation_20 rfl ?_
        refine j_getR (q := 46) hX hG fl_X1_15 rfl rfl (by decide) dX1_keepEquation_21 ?_
        refine j_il2 hX dX1_keepEquation_24 ?_
        refine j_pSL2 hX hG lk_X1_86 (ok_X11_bitsAt_in (n := 6) (by decide) (by first | assumption | decide) (by omega)) (Nat.le_of_ble_eq_true rfl) (Nat.le_of_ble_eq_true rfl) (Nat.le_of_ble_eq_true rfl) rfl dX1_keepEquation_25 ?_
        refine j_cSV3 hX hG lk_X1_90 (ok_X11_putBits_in (n := 36) (by decide) (by first | assumption | decide) (by omega)) (Nat.le_of_ble_eq_true rfl) (Nat.le_of_ble_eq_true rfl) (Nat.le_of_ble_eq_true rfl) rfl dX1_keepEquation_28 (fun V_28 h_28 => ?_)
        subst h_28
        refine j_inc2 hX dX1_keepEquation_31 rfl (by omega) ?_
        refine j_goto (tgt := 2) hX dX1_keepEquation_34 (by decide) ?_
        exact ih_2 _ _ (by omega) (fr_u hs (by decide)) (lt_stepI (fun y a b => by rw [up_n _ (by omega)]; exact h1 y a b) (by rw [up_s, hs 46 x (by decide)])) (fun i hi => by rw [up_n _ (by omega)]; exact h2 i hi) (by omega)
  exact lp_2 _ _ _ (by omega) fr_0 (fun y a b => by omega) (fun i _ => rfl) (Nat.lt_succ_self _)
set_option maxHeartbeats 4000000 in
theorem ok_X1_eliminate {V : VV} {r a b : Int} (hg : 2 ≤ V 44 5 ∧ V 44 5 ≤ 6) (hr : 0 ≤ r ∧ r < V 44 5) (hA : ∀ x, 0 ≤ x → x < V 44 5 → ab (V 46 x) ≤ a) (hBb : ∀ x, 0 ≤ x → x < V 44 5 → ab (V 45 (r * 6 + x)) ≤ b) (hab : a * b ≤ 3000000000000000000) : Ok NC yX1_eliminate cX1_eliminate 11 none 2 51 [vA 44, vI r] V (pV (fun V' => NRM (V 44 5) (elm (V 46) (fun y => V 45 (r * 6 + y)) r) (V' 46) ∧ fr [46] V V')) := by
  refine Ok.intro (by decide +kernel) (Nat.le_of_ble_eq_true rfl) (fun X G hX hG hR hoa hoV => ?_)
  show J X G 0 [vA 44, vI r, vU, vU, vU, vU, vU, vU, vU, vU, vU] [] V
  have hw : ∀ x, 0 ≤ x → x < V 44 5 → (-3000000000000000000 ≤ V 46 x * V 45 (r * 6 + r) ∧ V 46 x * V 45 (r * 6 + r) ≤ 3000000000000000000) ∧ (-3000000000000000000 ≤ V 45 (r * 6 + x) * V 46 r ∧ V 45 (r * 6 + x) * V 46 r ≤ 3000000000000000000) := fun x h0 h1 => by
    have e1 := ab_mul (V 46 x) (V 45 (r * 6 + r))
    have e2 := ab_mul (V 45 (r * 6 + x)) (V 46 r)
    have k1 := Int.mul_le_mul (hA x h0 h1) (hBb r hr.1 hr.2) (ab_nn _) (Int.le_trans (ab_nn _) (hA x h0 h1))
    have k2 := Int.mul_le_mul (hA r hr.1 hr.2) (hBb x h0 h1) (ab_nn _) (Int.le_trans (ab_nn _) (hA r hr.1 hr.2))
    rw [Int.mul_comm] at k2
    rcases ab_d (V 46 x * V 45 (r * 6 + r)) with q | q <;> rcases ab_d (V 45 (r * 6 + x) * V 46 r) with z | z <;> omega
  have hW9 : ∀ x, 0 ≤ x → x < V 44 5 → ab ((elm (V 46) (fun y => V 45 (r * 6 + y)) r) x) ≤ 6000000000000000000 := fun x h0 h1 => by have := hw x h0 h1; show ab (V 46 x * V 45 (r * 6 + r) - V 45 (r * 6 + x) * V 46 r) ≤ _; rcases ab_d (V 46 x * V 45 (r * 6 + r) - V 45 (r * 6 + x) * V 46 r) with q | q <;> omega
  refine j_al0 hX dX1_eliminate_0 rfl ?_
  refine j_getR (q := 46) hX hG fl_X1_15 rfl rfl (by decide) dX1_eliminate_1 ?_
  refine j_il1 hX dX1_eliminate_4 ?_
  refine j_pSL2 hX hG lk_X1_86 (ok_X11_bitsAt_in (n := 6) (by decide) (by first | assumption | decide) (by omega)) (Nat.le_of_ble_eq_true rfl) (Nat.le_of_ble_eq_true rfl) (Nat.le_of_ble_eq_true rfl) rfl dX1_eliminate_5 ?_
  refine j_ls2 hX dX1_eliminate_8 rfl ?_
  refine j_al0 hX dX1_eliminate_9 rfl ?_
  refine j_il1 hX dX1_eliminate_10 ?_
  refine j_il1 hX dX1_eliminate_11 ?_
  refine j_pVL2 (ci := 1) hX hG lk_X1_94 (ok_X1_numberOf (by omega) (by omega)) (by decide) rfl (Nat.le_of_ble_eq_true rfl) (Nat.le_of_ble_eq_true rfl) (Nat.le_of_ble_eq_true rfl) rfl dX1_eliminate_12 ?_
  refine j_ls4 hX dX1_eliminate_15 rfl ?_
  refine j_lconst (x := 0) hX dX1_eliminate_17 rfl ⟨by decide, by decide⟩ ?_
  refine j_ls6 hX dX1_eliminate_18 rfl ?_
  refine j_iconst hX dX1_eliminate_20 ⟨by decide, by decide⟩ ?_
  refine j_is8 hX dX1_eliminate_21 rfl ?_
  have lp_23 : ∀ (f9 : Nat) (x : Int) (W : VV), (0 ≤ x ∧ x ≤ V 44 5) → (fr [46] V W) → (∀ y, 0 ≤ y → y < x → W 46 y = (elm (V 46) (fun y => V 45 (r * 6 + y)) r) y) → (∀ y, x ≤ y → W 46 y = V 46 y) → ((V 44 5 - x).toNat) < f9 → J X G 23 [vA 44, vI r, vL (V 46 r), vU, vL (V 45 (r * 6 + r)), vU, vL (gF (elm (V 46) (fun y => V 45 (r * 6 + y)) r) x.toNat), vU, vI x, vU, vU] [] W := by
    intro f9
    induction f9 with
    | zero => intro x W _ _ _ _ hm; exact absurd hm (Nat.not_lt_zero _)
    | succ f9 ih_23 =>
      intro x W hx hs h1 h2 hm
      refine j_il8 hX dX1_eliminate_23 ?_
      refine j_al0 hX dX1_eliminate_25 rfl ?_
      refine j_getI hX hG fl_X1_36 (Or.inl rfl) (by decide) dX1_eliminate_26 ?_
      refine j_icmp_ge (tgt := 82) hX dX1_eliminate_29 (by decide) (fun h_29 => ?_) (fun h_29 => ?_)
      · skip
        have ex9 : x = V 44 5 := by have := hs 44 5 (by decide); omega
        rw [ex9]
        refine j_iconst hX dX1_eliminate_82 ⟨by decide, by decide⟩ ?_
        refine j_is8 hX dX1_eliminate_83 rfl ?_
        have lp_85 : ∀ (f9 : Nat) (x : Int) (Z : VV), (0 ≤ x ∧ x ≤ V 44 5) → (fr [46] V Z) → (∀ y, 0 ≤ y → y < x → Z 46 y = if 0 < gF (elm (V 46) (fun y => V 45 (r * 6 + y)) r) (V 44 5).toNat then ((elm (V 46) (fun y => V 45 (r * 6 + y)) r) y).tdiv (gF (elm (V 46) (fun y => V 45 (r * 6 + y)) r) (V 44 5).toNat) else 0) → (∀ y, x ≤ y → y < V 44 5 → Z 46 y = (elm (V 46) (fun y => V 45 (r * 6 + y)) r) y) → ((V 44 5 - x).toNat) < f9 → J X G 85 [vA 44, vI r, vL (V 46 r), vU, vL (V 45 (r * 6 + r)), vU, vL (gF (elm (V 46) (fun y => V 45 (r * 6 + y)) r) (V 44 5).toNat), vU, vI x, vU, vU] [] Z := by
          intro f9
          induction f9 with
          | zero => intro x Z _ _ _ _ hm; exact absurd hm (Nat.not_lt_zero _)
          | succ f9 ih_85 =>
            intro x Z hx hs h1 h2 hm
            refine j_il8 hX dX1_eliminate_85 ?_
            refine j_al0 hX dX1_eliminate_87 rfl ?_
            refine j_getI hX hG fl_X1_36 (Or.inl rfl) (by decide) dX1_eliminate_88 ?_
            refine j_icmp_ge (tgt := 123) hX dX1_eliminate_91 (by decide) (fun h_91 => ?_) (fun h_91 => ?_)
            · skip
              exact j_ret hR dX1_eliminate_123 ⟨NRM_of fun y a b => h1 y a (by have := hs 44 5 (by decide); omega), hs⟩
            · skip
              have q5 : Z 44 5 = V 44 5 := hs 44 5 (by decide)
              refine j_al0 hX dX1_eliminate_94 rfl ?_
              refine j_getR (q := 46) hX hG fl_X1_15 rfl rfl (by decide) dX1_eliminate_95 ?_
              refine j_il8 hX dX1_eliminate_98 ?_
              refine j_al0 hX dX1_eliminate_100 rfl ?_
              refine j_getR (q := 46) hX hG fl_X1_15 rfl rfl (by decide) dX1_eliminate_101 ?_
              refine j_il8 hX dX1_eliminate_104 ?_
              refine j_pSL2 hX hG lk_X1_86 (ok_X11_bitsAt_in (n := 6) (by decide) (by first | assumption | decide) (by omega)) (Nat.le_of_ble_eq_true rfl) (Nat.le_of_ble_eq_true rfl) (Nat.le_of_ble_eq_true rfl) rfl dX1_eliminate_106 ?_
              refine j_eqS (st' := [vL ((elm (V 46) (fun y => V 45 (r * 6 + y)) r) x), vI x, vA 46]) (by rw [h2 x (Int.le_refl _) (by omega)]) ?_
              refine j_ll6 hX dX1_eliminate_109 ?_
              refine j_pSL2 hX hG lk_X1_108 (ok_X11_over ) (Nat.le_of_ble_eq_true rfl) (Nat.le_of_ble_eq_true rfl) (Nat.le_of_ble_eq_true rfl) rfl dX1_eliminate_111 ?_
              refine j_cSV3 hX hG lk_X1_90 (ok_X11_putBits_in (n := 6) (by decide) (by first | assumption | decide) (by omega)) (Nat.le_of_ble_eq_true rfl) (Nat.le_of_ble_eq_true rfl) (Nat.le_of_ble_eq_true rfl) rfl dX1_eliminate_114 (fun V_114 h_114 => ?_)
              subst h_114
              refine j_inc8 hX dX1_eliminate_117 rfl (by omega) ?_
              refine j_goto (tgt := 85) hX dX1_eliminate_120 (by decide) ?_
              exact ih_85 _ _ (by omega) (fr_u hs (by decide)) (lt_stepI (fun y a b => by rw [up_n _ (by omega)]; exact h1 y a b) (up_s ..)) (fun y a b => by rw [up_n _ (by omega)]; exact h2 y (by omega) b) (by omega)
        exact lp_85 _ _ _ (by omega) hs (fun y a b => by omega) (fun y a b => h1 y a (by omega)) (Nat.lt_succ_self _)
      · skip
        have q5 : W 44 5 = V 44 5 := hs 44 5 (by decide)
        have q45 : ∀ i, W 45 i = V 45 i := fun i => hs 45 i (by decide)
        have hwx := hw x hx.1 (by omega)
        have hWx := NB_e9 (hW9 x hx.1 (by omega))
        have hgf := gF_b (v := (elm (V 46) (fun y => V 45 (r * 6 + y)) r)) (b := 6000000000000000000) x.toNat (fun y a b => hW9 y a (by omega)) (by decide)
        have hgn := gF_nn (elm (V 46) (fun y => V 45 (r * 6 + y)) r) x.toNat
        have hex : (elm (V 46) (fun y => V 45 (r * 6 + y)) r) x = V 46 x * V 45 (r * 6 + r) - V 45 (r * 6 + x) * V 46 r := rfl
        refine j_al0 hX dX1_eliminate_32 rfl ?_
        refine j_getR (q := 46) hX hG fl_X1_15 rfl rfl (by decide) dX1_eliminate_33 ?_
        refine j_il8 hX dX1_eliminate_36 ?_
        refine j_pSL2 hX hG lk_X1_86 (ok_X11_bitsAt_in (n := 6) (by decide) (by first | assumption | decide) (by omega)) (Nat.le_of_ble_eq_true rfl) (Nat.le_of_ble_eq_true rfl) (Nat.le_of_ble_eq_true rfl) rfl dX1_eliminate_38 ?_
        refine j_eqS (st' := [vL (V 46 x)]) (by rw [h2 x (Int.le_refl _)]) ?_
        refine j_ll4 hX dX1_eliminate_41 ?_
        refine j_lmul hX dX1_eliminate_43 (by omega) ?_
        refine j_al0 hX dX1_eliminate_44 rfl ?_
        refine j_il1 hX dX1_eliminate_45 ?_
        refine j_il8 hX dX1_eliminate_46 ?_
        refine j_pVL2 (ci := 1) hX hG lk_X1_94 (ok_X1_numberOf (by omega) (by omega)) (by decide) rfl (Nat.le_of_ble_eq_true rfl) (Nat.le_of_ble_eq_true rfl) (Nat.le_of_ble_eq_true rfl) rfl dX1_eliminate_48 ?_
        refine j_eqS (st' := [vL (V 45 (r * 6 + x)), vL (V 46 x * V 45 (r * 6 + r))]) (by rw [q45]) ?_
        refine j_ll2 hX dX1_eliminate_51 ?_
        refine j_lmul hX dX1_eliminate_52 (by omega) ?_
        refine j_lsub hX dX1_eliminate_53 (by omega) ?_
        refine j_eqS (st' := [vL ((elm (V 46) (fun y => V 45 (r * 6 + y)) r) x)]) rfl ?_
        refine j_ls9 hX dX1_eliminate_54 rfl ?_
        refine j_al0 hX dX1_eliminate_56 rfl ?_
        refine j_getR (q := 46) hX hG fl_X1_15 rfl rfl (by decide) dX1_eliminate_57 ?_
        refine j_il8 hX dX1_eliminate_60 ?_
        refine j_ll9 hX dX1_eliminate_62 ?_
        refine j_cSV3 hX hG lk_X1_90 (ok_X11_putBits_in (n := 6) (by decide) (by first | assumption | decide) (by omega)) (Nat.le_of_ble_eq_true rfl) (Nat.le_of_ble_eq_true rfl) (Nat.le_of_ble_eq_true rfl) rfl dX1_eliminate_64 (fun V_64 h_64 => ?_)
        subst h_64
        refine j_ll6 hX dX1_eliminate_67 ?_
        refine j_ll9 hX dX1_eliminate_69 ?_
        refine j_pSL2 hX hG lk_X1_104 (ok_X11_commonDivisor (by omega) (by omega)) (Nat.le_of_ble_eq_true rfl) (Nat.le_of_ble_eq_true rfl) (Nat.le_of_ble_eq_true rfl) rfl dX1_eliminate_71 ?_
        refine j_ls6 hX dX1_eliminate_74 rfl ?_
        refine j_inc8 hX dX1_eliminate_76 rfl (by omega) ?_
        refine j_goto (tgt := 23) hX dX1_eliminate_79 (by decide) ?_
        refine j_fg9 ?_
        refine j_eqL (ls' := [vA 44, vI r, vL (V 46 r), vU, vL (V 45 (r * 6 + r)), vU, vL (gF (elm (V 46) (fun y => V 45 (r * 6 + y)) r) (x + 1).toNat), vU, vI (x + 1), vU, vU]) (by rw [gF_S hx.1]) ?_
        exact ih_23 _ _ (by omega) (fr_u hs (by decide)) (lt_stepI (fun y a b => by rw [up_n _ (by omega)]; exact h1 y a b) (up_s ..)) (fun y hy => by rw [up_n _ (by omega)]; exact h2 y (by omega)) (by omega)
  refine j_eqL (ls' := [vA 44, vI r, vL (V 46 r), vU, vL (V 45 (r * 6 + r)), vU, vL (gF (elm (V 46) (fun y => V 45 (r * 6 + y)) r) (0 : Int).toNat), vU, vI 0, vU, vU]) rfl ?_
  exact lp_23 _ _ _ (by omega) fr_0 (fun y a b => by omega) (fun y _ => rfl) (Nat.lt_succ_self _)
