def REC (V V' : VV) (w s : Int) : Prop := V' 33 5 = (V 33 5 + 1) % 10 ∧ V' 33 4 = (if V 33 4 + 1 ≤ 10 then V 33 4 + 1 else 10) ∧ (∀ j, V' 35 j = if j = (V 33 5 + 1) % 10 then V 23 1 else V 35 j) ∧ (∀ j, V' 36 j = if j = (V 33 5 + 1) % 10 then w else V 36 j) ∧ (∀ j, V' 37 j = if j = (V 33 5 + 1) % 10 then s else V 37 j) ∧ (∀ k, 0 ≤ k → k < V 23 1 → V' 34 ((V 33 5 + 1) % 10 * 16 + k) = V 24 k) ∧ (∀ b, b < (V 33 5 + 1) % 10 * 16 ∨ (V 33 5 + 1) % 10 * 16 + 16 ≤ b → V' 34 b = V 34 b)
theorem REC_of {V V' : VV} {w s : Int} {F : Prop} (h : V' 33 5 = (V 33 5 + 1) % 10 ∧ V' 33 4 = (if V 33 4 + 1 ≤ 10 then V 33 4 + 1 else 10) ∧ (∀ j, V' 35 j = if j = (V 33 5 + 1) % 10 then V 23 1 else V 35 j) ∧ (∀ j, V' 36 j = if j = (V 33 5 + 1) % 10 then w else V 36 j) ∧ (∀ j, V' 37 j = if j = (V 33 5 + 1) % 10 then s else V 37 j) ∧ (∀ k, 0 ≤ k → k < V 23 1 → V' 34 ((V 33 5 + 1) % 10 * 16 + k) = V 24 k) ∧ (∀ b, b < (V 33 5 + 1) % 10 * 16 ∨ (V 33 5 + 1) % 10 * 16 + 16 ≤ b → V' 34 b = V 34 b) ∧ F) : REC V V' w s ∧ F := by
  obtain ⟨a, b, c, d, e, f, g, i⟩ := h
  exact ⟨⟨a, b, c, d, e, f, g⟩, i⟩
theorem REC.c {V V' W W' : VV} {w s : Int} (h : REC V V' w s) (e : ∀ a b : Int, a = 23 ∨ a = 24 ∨ (33 ≤ a ∧ a ≤ 37) → V a b = W a b) (e' : ∀ a b : Int, 33 ≤ a ∧ a ≤ 37 → V' a b = W' a b) : REC W W' w s := by
  have a33 : W 33 = V 33 := funext fun b => (e 33 b (by omega)).symm
  have a34 : W 34 = V 34 := funext fun b => (e 34 b (by omega)).symm
  have a35 : W 35 = V 35 := funext fun b => (e 35 b (by omega)).symm
  have a36 : W 36 = V 36 := funext fun b => (e 36 b (by omega)).symm
  have a37 : W 37 = V 37 := funext fun b => (e 37 b (by omega)).symm
  have a23 : W 23 = V 23 := funext fun b => (e 23 b (by omega)).symm
  have a24 : W 24 = V 24 := funext fun b => (e 24 b (by omega)).symm
  have b33 : W' 33 = V' 33 := funext fun b => (e' 33 b (by omega)).symm
  have b34 : W' 34 = V' 34 := funext fun b => (e' 34 b (by omega)).symm
  have b35 : W' 35 = V' 35 := funext fun b => (e' 35 b (by omega)).symm
  have b36 : W' 36 = V' 36 := funext fun b => (e' 36 b (by omega)).symm
  have b37 : W' 37 = V' 37 := funext fun b => (e' 37 b (by omega)).symm
  unfold REC at h ⊢
  rw [a33, a34, a35, a36, a37, a23, a24, b33, b34, b35, b36, b37]
  exact h
set_option maxHeartbeats 4000000 in
theorem ok_X11_setCase {V : VV} {a b c s : Int} {q : Nat} (ho9 : RO V 15) (ht : TR V 15) (hgp : GP V 13 q) (h3 : V 15 3 = gO q) (hn : 1 ≤ V 23 1 ∧ V 23 1 ≤ 16) (hcl : 0 ≤ V 33 5 ∧ V 33 5 ≤ 9) (hcc : 0 ≤ V 33 4 ∧ V 33 4 ≤ 10) (hv : 0 ≤ V 15 7 ∧ V 15 7 ≤ 1000000) : OkX yX11_setCase cX11_setCase 7 (some .int) 8 130 [vA 0, vI a, vI b, vI c, vI s] V (pI (fun x9 V' => (x9 = V 16 (if V 15 4 = 2 then a * V 15 3 + b else (a * V 15 3 + b) * V 15 3 + c) ∧ ((0 ≤ a ∧ a < V 15 3) ∧ (0 ≤ b ∧ b < V 15 3) ∧ (V 15 4 = 2 ∨ 0 ≤ c ∧ c < V 15 3)) ∧ 0 ≤ s ∧ s < V 13 1) ∧ REC V V' (if V 15 4 = 2 then a * V 15 3 + b else (a * V 15 3 + b) * V 15 3 + c) (V 16 (if V 15 4 = 2 then a * V 15 3 + b else (a * V 15 3 + b) * V 15 3 + c)) ∧ (∀ e, V' 16 e = if e = (if V 15 4 = 2 then a * V 15 3 + b else (a * V 15 3 + b) * V 15 3 + c) then s else V 16 e) ∧ V' 15 7 = V 15 7 + 1 ∧ (∀ b, b ≠ 7 → V' 15 b = V 15 b) ∧ fr [15, 16, 33, 34, 35, 36, 37] V V')) (fun E V' => (E = exB ∧ (¬ (((0 ≤ a ∧ a < V 15 3) ∧ (0 ≤ b ∧ b < V 15 3) ∧ (V 15 4 = 2 ∨ 0 ≤ c ∧ c < V 15 3)) ∧ 0 ≤ s ∧ s < V 13 1)) ∧ V' = V)) := by
  refine OkX.intro (by decide +kernel) (Nat.le_of_ble_eq_true rfl) (fun X G hX hG hR hT hoa hoV => ?_)
  show J X G 0 [vA 0, vI a, vI b, vI c, vI s, vU, vU] [] V
  have hb9 := ho9.b
  refine j_al0 hX dX11_setCase_0 rfl ?_
  refine j_getR (q := 15) hX hG fl_X11_26 rfl rfl (by decide) dX11_setCase_1 ?_
  refine j_il1 hX dX11_setCase_4 ?_
  refine j_il2 hX dX11_setCase_5 ?_
  refine j_il3 hX dX11_setCase_6 ?_
  refine j_pVI3 (ci := 8) hX (gNC hG) lk_X11_211 (ok_X8_hasWord (Or.inr (Or.inl rfl))) (by decide) rfl (Nat.le_of_ble_eq_true rfl) (Nat.le_of_ble_eq_true rfl) (Nat.le_of_ble_eq_true rfl) rfl dX11_setCase_7 ?_
  try dsimp only [Int.reduceAdd]
  refine j_ifz_eq (tgt := 25) hX dX11_setCase_10 (by decide) (fun h_10 => ?_) (fun h_10 => ?_)
  · skip
    exact j_throw (text := "no such state") hX hT th_128 (by decide +kernel) dX11_setCase_25 dX11_setCase_28 dX11_setCase_29 dX11_setCase_31 dX11_setCase_34 (by decide) (Nat.le_of_ble_eq_true rfl) rfl (by first | exact ⟨rfl, fun z => h_10 z.1, rfl⟩ | exact ⟨rfl, fun z => h_22 z.2, rfl⟩)
  · skip
    refine j_al0 hX dX11_setCase_13 rfl ?_
    refine j_getR (q := 13) hX hG fl_X11_19 rfl rfl (by decide) dX11_setCase_14 ?_
    refine j_il4 hX dX11_setCase_17 ?_
    refine j_pVI1 (ci := 2) hX (gNC hG) lk_X11_174 (ok_X2_has (Or.inr rfl)) (by decide) rfl (Nat.le_of_ble_eq_true rfl) (Nat.le_of_ble_eq_true rfl) (Nat.le_of_ble_eq_true rfl) rfl dX11_setCase_19 ?_
    try dsimp only [Int.reduceAdd]
    refine j_ifz_ne (tgt := 35) hX dX11_setCase_22 (by decide) (fun h_22 => ?_) (fun h_22 => ?_)
    · skip
      have hw9 : (0 ≤ a ∧ a < V 15 3) ∧ (0 ≤ b ∧ b < V 15 3) ∧ (V 15 4 = 2 ∨ 0 ≤ c ∧ c < V 15 3) := h_10
      have hwd := RO.word2 ho9 hw9.1 hw9.2.1 hw9.2.2
      refine j_al0 hX dX11_setCase_35 rfl ?_
      refine j_getR (q := 15) hX hG fl_X11_26 rfl rfl (by decide) dX11_setCase_36 ?_
      refine j_il1 hX dX11_setCase_39 ?_
      refine j_il2 hX dX11_setCase_40 ?_
      refine j_il3 hX dX11_setCase_41 ?_
      refine j_pVI3 (ci := 8) hX (gNC hG) lk_X11_217 (ok_X8_wordOf (Or.inr (Or.inl rfl)) (by first | assumption | omega | decide) hw9.1 hw9.2.1 hw9.2.2) (by decide) rfl (Nat.le_of_ble_eq_true rfl) (Nat.le_of_ble_eq_true rfl) (Nat.le_of_ble_eq_true rfl) rfl dX11_setCase_42 ?_
      try dsimp only [Int.reduceAdd]
      refine j_is5 hX dX11_setCase_45 rfl ?_
      refine j_al0 hX dX11_setCase_47 rfl ?_
      refine j_getR (q := 15) hX hG fl_X11_26 rfl rfl (by decide) dX11_setCase_48 ?_
      refine j_il5 hX dX11_setCase_51 ?_
      refine j_pVI1 (ci := 8) hX (gNC hG) lk_X11_221 (ok_X8_gives (Or.inr (Or.inl rfl)) (by omega)) (by decide) rfl (Nat.le_of_ble_eq_true rfl) (Nat.le_of_ble_eq_true rfl) (Nat.le_of_ble_eq_true rfl) rfl dX11_setCase_53 ?_
      try dsimp only [Int.reduceAdd]
      refine j_is6 hX dX11_setCase_56 rfl ?_
      refine j_al0 hX dX11_setCase_58 rfl ?_
      refine j_getR (q := 33) hX hG fl_X11_55 rfl rfl (by decide) dX11_setCase_59 ?_
      refine j_al0 hX dX11_setCase_62 rfl ?_
      refine j_getR (q := 23) hX hG fl_X11_36 rfl rfl (by decide) dX11_setCase_63 ?_
      refine j_il5 hX dX11_setCase_66 ?_
      refine j_il6 hX dX11_setCase_68 ?_
      refine j_cVV3 (ci := 0) hX (gNC hG) lk_X11_240 (ok_X0_record (by first | exact hcl | omega) (by first | exact hcc | omega) (by omega)) (by decide) rfl (Nat.le_of_ble_eq_true rfl) (Nat.le_of_ble_eq_true rfl) (Nat.le_of_ble_eq_true rfl) rfl dX11_setCase_70 (fun V_70 h_70 => ?_)
      obtain ⟨rec_70, f_70⟩ := REC_of h_70
      refine j_al0 hX dX11_setCase_73 rfl ?_
      refine j_getR (q := 15) hX hG fl_X11_26 rfl rfl (by decide) dX11_setCase_74 ?_
      refine j_il5 hX dX11_setCase_77 ?_
      refine j_il4 hX dX11_setCase_79 ?_
      refine j_cVV2 (ci := 8) hX (gNC hG) lk_X11_102 (ok_X8_give (Or.inr (Or.inl rfl)) (by omega) (by rw [f_70 15 7 (by decide)]; exact hv)) (by decide) rfl (Nat.le_of_ble_eq_true rfl) (Nat.le_of_ble_eq_true rfl) (Nat.le_of_ble_eq_true rfl) rfl dX11_setCase_81 (fun V_81 h_81 => ?_)
      subst h_81
      dsimp only [Int.reduceAdd]
      have v7_70 : V_70 15 7 = V 15 7 := f_70 15 7 (by decide)
      try dsimp only [Int.reduceAdd]
      refine j_il6 hX dX11_setCase_84 ?_
      exact j_retI hR dX11_setCase_86 ⟨⟨rfl, hw9, h_22⟩, rec_70.c (fun _ _ _ => rfl) (fun x y hx => by rw [up_n _ (by omega), up_n _ (by omega)]), fun e => by
      rw [up_n _ (by omega)]
      by_cases z : e = (if V 15 4 = 2 then a * V 15 3 + b else (a * V 15 3 + b) * V 15 3 + c)
      · rw [if_pos z, z, up_s]
      · rw [if_neg z, up_n _ (fun y => z y.2), f_70 16 e (by decide)], by rw [up_s, v7_70], fun x hx => by rw [up_n _ (by omega), up_n _ (by omega), f_70 15 x (by decide)], fr_u (fr_u (fr_w f_70 (by decide)) (by decide)) (by decide)⟩
    · skip
      exact j_throw (text := "no such state") hX hT th_128 (by decide +kernel) dX11_setCase_25 dX11_setCase_28 dX11_setCase_29 dX11_setCase_31 dX11_setCase_34 (by decide) (Nat.le_of_ble_eq_true rfl) rfl (by first | exact ⟨rfl, fun z => h_10 z.1, rfl⟩ | exact ⟨rfl, fun z => h_22 z.2, rfl⟩)
set_option maxHeartbeats 4000000 in
theorem ok_X11_replaceRing {V : VV} (hn : 1 ≤ V 23 1 ∧ V 23 1 ≤ 16) (hcl : 0 ≤ V 33 5 ∧ V 33 5 ≤ 9) (hcc : 0 ≤ V 33 4 ∧ V 33 4 ≤ 10) (hn29 : 0 ≤ V 29 1 ∧ V 29 1 ≤ 16) : Ok NC yX11_replaceRing cX11_replaceRing 2 (some .int) 3 67 [vA 0] V (pI (fun x9 V' => x9 = cntI (fun k => V 24 k != V 30 k) (V 23 1).toNat ∧ REC V V' (-1) 0 ∧ V' 23 1 = V 29 1 ∧ (∀ k, 0 ≤ k → k < V 29 1 → V' 24 k = V 30 k) ∧ fr [23, 24, 33, 34, 35, 36, 37] V V')) := by
  refine Ok.intro (by decide +kernel) (Nat.le_of_ble_eq_true rfl) (fun X G hX hG hR hoa hoV => ?_)
  show J X G 0 [vA 0, vU] [] V
  refine j_al0 hX dX11_replaceRing_0 rfl ?_
  refine j_getR (q := 23) hX hG fl_X11_36 rfl rfl (by decide) dX11_replaceRing_1 ?_
  refine j_al0 hX dX11_replaceRing_4 rfl ?_
  refine j_getR (q := 29) hX hG fl_X11_46 rfl rfl (by decide) dX11_replaceRing_5 ?_
  refine j_pVI1 (ci := 7) hX hG lk_X11_380 (ok_X7_countDifferent (by decide) (by decide) (by omega)) (by decide) rfl (Nat.le_of_ble_eq_true rfl) (Nat.le_of_ble_eq_true rfl) (Nat.le_of_ble_eq_true rfl) rfl dX11_replaceRing_8 ?_
  try dsimp only [Int.reduceAdd]
  refine j_is1 hX dX11_replaceRing_11 rfl ?_
  refine j_al0 hX dX11_replaceRing_12 rfl ?_
  refine j_getR (q := 33) hX hG fl_X11_55 rfl rfl (by decide) dX11_replaceRing_13 ?_
  refine j_al0 hX dX11_replaceRing_16 rfl ?_
  refine j_getR (q := 23) hX hG fl_X11_36 rfl rfl (by decide) dX11_replaceRing_17 ?_
  refine j_iconst hX dX11_replaceRing_20 ⟨by decide, by decide⟩ ?_
  refine j_iconst hX dX11_replaceRing_21 ⟨by decide, by decide⟩ ?_
  refine j_cVV3 (ci := 0) hX hG lk_X11_240 (ok_X0_record (by first | exact hcl | omega) (by first | exact hcc | omega) (by omega)) (by decide) rfl (Nat.le_of_ble_eq_true rfl) (Nat.le_of_ble_eq_true rfl) (Nat.le_of_ble_eq_true rfl) rfl dX11_replaceRing_22 (fun V_22 h_22 => ?_)
  obtain ⟨rec_22, f_22⟩ := REC_of h_22
  have l_22 : V_22 29 1 = V 29 1 := f_22 29 1 (by decide)
  refine j_al0 hX dX11_replaceRing_25 rfl ?_
  refine j_getR (q := 23) hX hG fl_X11_36 rfl rfl (by decide) dX11_replaceRing_26 ?_
  refine j_al0 hX dX11_replaceRing_29 rfl ?_
  refine j_getR (q := 29) hX hG fl_X11_46 rfl rfl (by decide) dX11_replaceRing_30 ?_
  refine j_cVV1 (ci := 7) hX hG lk_X11_158 (ok_X7_copy (by decide) (by decide) (by decide) (by rw [l_22]; exact hn29)) (by decide) rfl (Nat.le_of_ble_eq_true rfl) (Nat.le_of_ble_eq_true rfl) (Nat.le_of_ble_eq_true rfl) rfl dX11_replaceRing_33 (fun V_33 h_33 => ?_)
  obtain ⟨a_33, b_33, s_33⟩ := h_33
  dsimp only [Int.reduceAdd] at a_33 b_33 s_33
  rw [l_22] at a_33 b_33
  have f_33 := fr_s2 s_33
  try dsimp only [Int.reduceAdd]
  refine j_il1 hX dX11_replaceRing_36 ?_
  exact j_retI hR dX11_replaceRing_37 ⟨rfl, rec_22.c (fun _ _ _ => rfl) (fun x y hx => (f_33 x y (by simp; omega)).symm), a_33, fun k k0 k1 => by rw [b_33 k k0 k1]; exact f_22 30 k (by decide), fr_t (fr_w f_22 (by decide)) (fr_w f_33 (by decide))⟩
set_option maxHeartbeats 4000000 in
theorem ok_X11_slotOf {V : VV} {a : Int}  : Ok NC yX11_slotOf cX11_slotOf 2 (some (.object "GroupAutomaton$Ring")) 0 0 [vA 0, vI a] V (pA (fun x9 V' => x9 = (if a = 0 then 25 else 27) ∧ V' = V)) := by
  refine Ok.intro (by decide +kernel) (Nat.le_of_ble_eq_true rfl) (fun X G hX hG hR hoa hoV => ?_)
  show J X G 0 [vA 0, vI a] [] V
  refine j_il1 hX dX11_slotOf_0 ?_
  refine j_if_ne (tgt := 11) hX dX11_slotOf_1 (by decide) (fun h_1 => ?_) (fun h_1 => ?_)
  · skip
    refine j_al0 hX dX11_slotOf_11 rfl ?_
    refine j_getR (q := 27) hX hG fl_X11_43 rfl rfl (by decide) dX11_slotOf_12 ?_
    exact j_retA hR dX11_slotOf_15 (by first | exact ⟨by rw [if_pos h_1], rfl⟩ | exact ⟨by rw [if_neg h_1], rfl⟩)
  · skip
    refine j_al0 hX dX11_slotOf_4 rfl ?_
    refine j_getR (q := 25) hX hG fl_X11_40 rfl rfl (by decide) dX11_slotOf_5 ?_
    refine j_goto (tgt := 15) hX dX11_slotOf_8 (by decide) ?_
    exact j_retA hR dX11_slotOf_15 (by first | exact ⟨by rw [if_pos h_1], rfl⟩ | exact ⟨by rw [if_neg h_1], rfl⟩)
set_option maxHeartbeats 4000000 in
theorem ok_X11_set {V : VV} {k s : Int} {q : Nat} (hn : 1 ≤ V 23 1 ∧ V 23 1 ≤ 16) (hcl : 0 ≤ V 33 5 ∧ V 33 5 ≤ 9) (hcc : 0 ≤ V 33 4 ∧ V 33 4 ≤ 10) : OkX yX11_set cX11_set 4 (some .int) 8 130 [vA 0, vI k, vI s] V (pI (fun x9 V' => (x9 = V 24 k ∧ (0 ≤ k ∧ k < V 23 1) ∧ 0 ≤ s ∧ s < V 13 1) ∧ REC V V' (-1) 0 ∧ (∀ j, V' 24 j = if j = k then s else V 24 j) ∧ fr [24, 33, 34, 35, 36, 37] V V')) (fun E V' => (E = exB ∧ (¬ ((0 ≤ k ∧ k < V 23 1) ∧ 0 ≤ s ∧ s < V 13 1)) ∧ V' = V)) := by
  refine OkX.intro (by decide +kernel) (Nat.le_of_ble_eq_true rfl) (fun X G hX hG hR hT hoa hoV => ?_)
  show J X G 0 [vA 0, vI k, vI s, vU] [] V
  refine j_al0 hX dX11_set_0 rfl ?_
  refine j_getR (q := 23) hX hG fl_X11_36 rfl rfl (by decide) dX11_set_1 ?_
  refine j_il1 hX dX11_set_4 ?_
  refine j_pVI1 (ci := 7) hX (gNC hG) lk_X11_294 (ok_X7_has (by decide)) (by decide) rfl (Nat.le_of_ble_eq_true rfl) (Nat.le_of_ble_eq_true rfl) (Nat.le_of_ble_eq_true rfl) rfl dX11_set_5 ?_
  try dsimp only [Int.reduceAdd]
  refine j_ifz_eq (tgt := 22) hX dX11_set_8 (by decide) (fun h_8 => ?_) (fun h_8 => ?_)
  · skip
    exact j_throwW (text := "no such cell or state") hX hT th_128 (by decide +kernel) dX11_set_22 dX11_set_25 dX11_set_26 dX11_set_29 dX11_set_32 (by decide) (Nat.le_of_ble_eq_true rfl) rfl (by first | exact ⟨rfl, fun z => h_8 z.1, rfl⟩ | exact ⟨rfl, fun z => h_19 z.2, rfl⟩)
  · skip
    refine j_al0 hX dX11_set_11 rfl ?_
    refine j_getR (q := 13) hX hG fl_X11_19 rfl rfl (by decide) dX11_set_12 ?_
    refine j_il2 hX dX11_set_15 ?_
    refine j_pVI1 (ci := 2) hX (gNC hG) lk_X11_174 (ok_X2_has (Or.inr rfl)) (by decide) rfl (Nat.le_of_ble_eq_true rfl) (Nat.le_of_ble_eq_true rfl) (Nat.le_of_ble_eq_true rfl) rfl dX11_set_16 ?_
    try dsimp only [Int.reduceAdd]
    refine j_ifz_ne (tgt := 33) hX dX11_set_19 (by decide) (fun h_19 => ?_) (fun h_19 => ?_)
    · skip
      refine j_al0 hX dX11_set_33 rfl ?_
      refine j_getR (q := 23) hX hG fl_X11_36 rfl rfl (by decide) dX11_set_34 ?_
      refine j_il1 hX dX11_set_37 ?_
      refine j_pVI1 (ci := 7) hX (gNC hG) lk_X11_297 (ok_X7_stateOf (by decide) (by omega)) (by decide) rfl (Nat.le_of_ble_eq_true rfl) (Nat.le_of_ble_eq_true rfl) (Nat.le_of_ble_eq_true rfl) rfl dX11_set_38 ?_
      try dsimp only [Int.reduceAdd]
      refine j_is3 hX dX11_set_41 rfl ?_
      refine j_al0 hX dX11_set_42 rfl ?_
      refine j_getR (q := 33) hX hG fl_X11_55 rfl rfl (by decide) dX11_set_43 ?_
      refine j_al0 hX dX11_set_46 rfl ?_
      refine j_getR (q := 23) hX hG fl_X11_36 rfl rfl (by decide) dX11_set_47 ?_
      refine j_iconst hX dX11_set_50 ⟨by decide, by decide⟩ ?_
      refine j_iconst hX dX11_set_51 ⟨by decide, by decide⟩ ?_
      refine j_cVV3 (ci := 0) hX (gNC hG) lk_X11_240 (ok_X0_record (by first | exact hcl | omega) (by first | exact hcc | omega) (by omega)) (by decide) rfl (Nat.le_of_ble_eq_true rfl) (Nat.le_of_ble_eq_true rfl) (Nat.le_of_ble_eq_true rfl) rfl dX11_set_52 (fun V_52 h_52 => ?_)
      obtain ⟨rec_52, f_52⟩ := REC_of h_52
      refine j_al0 hX dX11_set_55 rfl ?_
      refine j_getR (q := 23) hX hG fl_X11_36 rfl rfl (by decide) dX11_set_56 ?_
      refine j_il1 hX dX11_set_59 ?_
      refine j_il2 hX dX11_set_60 ?_
      refine j_cVV2 (ci := 7) hX (gNC hG) lk_X11_353 (ok_X7_setTo (by decide) (by omega)) (by decide) rfl (Nat.le_of_ble_eq_true rfl) (Nat.le_of_ble_eq_true rfl) (Nat.le_of_ble_eq_true rfl) rfl dX11_set_61 (fun V_61 h_61 => ?_)
      subst h_61
      dsimp only [Int.reduceAdd]
      try dsimp only [Int.reduceAdd]
      refine j_il3 hX dX11_set_64 ?_
      exact j_retI hR dX11_set_65 ⟨⟨rfl, h_8, h_19⟩, rec_52.c (fun _ _ _ => rfl) (fun x y hx => by rw [up_n _ (by omega)]), fun j => by
      by_cases z : j = k
      · rw [if_pos z, z, up_s]
      · rw [if_neg z, up_n _ (fun y => z y.2), f_52 24 j (by decide)], fr_u (fr_w f_52 (by decide)) (by decide)⟩
    · skip
      exact j_throwW (text := "no such cell or state") hX hT th_128 (by decide +kernel) dX11_set_22 dX11_set_25 dX11_set_26 dX11_set_29 dX11_set_32 (by decide) (Nat.le_of_ble_eq_true rfl) rfl (by first | exact ⟨rfl, fun z => h_8 z.1, rfl⟩ | exact ⟨rfl, fun z => h_19 z.2, rfl⟩)
set_option maxHeartbeats 4000000 in
theorem ok_X11_grow {V : VV} {s : Int} (hn : 1 ≤ V 23 1 ∧ V 23 1 ≤ 16) (hcl : 0 ≤ V 33 5 ∧ V 33 5 ≤ 9) (hcc : 0 ≤ V 33 4 ∧ V 33 4 ≤ 10) : OkX yX11_grow cX11_grow 2 (some .int) 8 130 [vA 0, vI s] V (pI (fun x9 V' => (x9 = V 23 1 + 1 ∧ (0 ≤ s ∧ s < V 13 1) ∧ V 23 1 < 16) ∧ REC V V' (-1) 0 ∧ V' 23 1 = V 23 1 + 1 ∧ (∀ j, V' 24 j = if j = V 23 1 then s else V 24 j) ∧ fr [23, 24, 33, 34, 35, 36, 37] V V')) (fun E V' => (E = exB ∧ (¬ (0 ≤ s ∧ s < V 13 1)) ∧ V' = V) ∨ (E = exS ∧ ((0 ≤ s ∧ s < V 13 1) ∧ 16 ≤ V 23 1) ∧ V' = V)) := by
  refine OkX.intro (by decide +kernel) (Nat.le_of_ble_eq_true rfl) (fun X G hX hG hR hT hoa hoV => ?_)
  show J X G 0 [vA 0, vI s] [] V
  refine j_al0 hX dX11_grow_0 rfl ?_
  refine j_getR (q := 13) hX hG fl_X11_19 rfl rfl (by decide) dX11_grow_1 ?_
  refine j_il1 hX dX11_grow_4 ?_
  refine j_pVI1 (ci := 2) hX (gNC hG) lk_X11_174 (ok_X2_has (Or.inr rfl)) (by decide) rfl (Nat.le_of_ble_eq_true rfl) (Nat.le_of_ble_eq_true rfl) (Nat.le_of_ble_eq_true rfl) rfl dX11_grow_5 ?_
  try dsimp only [Int.reduceAdd]
  refine j_ifz_ne (tgt := 21) hX dX11_grow_8 (by decide) (fun h_8 => ?_) (fun h_8 => ?_)
  · skip
    refine j_al0 hX dX11_grow_21 rfl ?_
    refine j_getR (q := 23) hX hG fl_X11_36 rfl rfl (by decide) dX11_grow_22 ?_
    refine j_getI hX hG fl_X11_161 (Or.inl rfl) (by decide) dX11_grow_25 ?_
    refine j_bipush hX dX11_grow_28 (by decide) ⟨by decide, by decide⟩ ?_
    refine j_icmp_lt (tgt := 44) hX dX11_grow_30 (by decide) (fun h_30 => ?_) (fun h_30 => ?_)
    · skip
      refine j_al0 hX dX11_grow_44 rfl ?_
      refine j_getR (q := 33) hX hG fl_X11_55 rfl rfl (by decide) dX11_grow_45 ?_
      refine j_al0 hX dX11_grow_48 rfl ?_
      refine j_getR (q := 23) hX hG fl_X11_36 rfl rfl (by decide) dX11_grow_49 ?_
      refine j_iconst hX dX11_grow_52 ⟨by decide, by decide⟩ ?_
      refine j_iconst hX dX11_grow_53 ⟨by decide, by decide⟩ ?_
      refine j_cVV3 (ci := 0) hX (gNC hG) lk_X11_240 (ok_X0_record (by first | exact hcl | omega) (by first | exact hcc | omega) (by omega)) (by decide) rfl (Nat.le_of_ble_eq_true rfl) (Nat.le_of_ble_eq_true rfl) (Nat.le_of_ble_eq_true rfl) rfl dX11_grow_54 (fun V_54 h_54 => ?_)
      obtain ⟨rec_54, f_54⟩ := REC_of h_54
      have l_54 : V_54 23 1 = V 23 1 := f_54 23 1 (by decide)
      refine j_al0 hX dX11_grow_57 rfl ?_
      refine j_getR (q := 23) hX hG fl_X11_36 rfl rfl (by decide) dX11_grow_58 ?_
      refine j_il1 hX dX11_grow_61 ?_
      refine j_cVV1 (ci := 7) hX (gNC hG) lk_X11_105 (ok_X7_add (by decide) (by rw [l_54]; omega)) (by decide) rfl (Nat.le_of_ble_eq_true rfl) (Nat.le_of_ble_eq_true rfl) (Nat.le_of_ble_eq_true rfl) rfl dX11_grow_62 (fun V_62 h_62 => ?_)
      subst h_62
      dsimp only [Int.reduceAdd]
      try dsimp only [Int.reduceAdd]
      refine j_al0 hX dX11_grow_65 rfl ?_
      refine j_getR (q := 23) hX hG fl_X11_36 rfl rfl (by decide) dX11_grow_66 ?_
      refine j_getI hX hG fl_X11_161 (Or.inl rfl) (by decide) dX11_grow_69 ?_
      exact j_retI hR dX11_grow_72 ⟨⟨by rw [up_s, l_54], h_8, by omega⟩, rec_54.c (fun _ _ _ => rfl) (fun x y hx => by rw [up_n _ (by omega), up_n _ (by omega)]), by rw [up_s, l_54], fun j => by
      rw [up_n _ (by omega), l_54]
      by_cases z : j = V 23 1
      · rw [if_pos z, z, up_s]
      · rw [if_neg z, up_n _ (fun y => z y.2), f_54 24 j (by decide)], fr_u (fr_u (fr_w f_54 (by decide)) (by decide)) (by decide)⟩
    · skip
      exact j_throwW (text := "the ring is full") hX hT th_118 (by decide +kernel) dX11_grow_33 dX11_grow_36 dX11_grow_37 dX11_grow_40 dX11_grow_43 (by decide) (Nat.le_of_ble_eq_true rfl) rfl (Or.inr ⟨rfl, ⟨h_8, by omega⟩, rfl⟩)
  · skip
    exact j_throw (text := "no such state") hX hT th_128 (by decide +kernel) dX11_grow_11 dX11_grow_14 dX11_grow_15 dX11_grow_17 dX11_grow_20 (by decide) (Nat.le_of_ble_eq_true rfl) rfl (Or.inl ⟨rfl, h_8, rfl⟩)
set_option maxHeartbeats 4000000 in
theorem ok_X11_rotate {V : VV} {a : Int} (hn : 1 ≤ V 23 1 ∧ V 23 1 ≤ 16) (hcl : 0 ≤ V 33 5 ∧ V 33 5 ≤ 9) (hcc : 0 ≤ V 33 4 ∧ V 33 4 ≤ 10) : Ok NC yX11_rotate cX11_rotate 4 (some .int) 3 67 [vA 0, vI a] V (pI (fun x9 V' => x9 = V' 24 0 ∧ REC V V' (-1) 0 ∧ (∀ k, 0 ≤ k → k < V 23 1 → V' 24 k = V 24 ((k + a % V 23 1) % V 23 1)) ∧ fr [24, 29, 30, 33, 34, 35, 36, 37] V V')) := by
  refine Ok.intro (by decide +kernel) (Nat.le_of_ble_eq_true rfl) (fun X G hX hG hR hoa hoV => ?_)
  show J X G 0 [vA 0, vI a, vU, vU] [] V
  have hmd : 0 ≤ a % V 23 1 ∧ a % V 23 1 < V 23 1 := md_b a hn.1
  refine j_il1 hX dX11_rotate_0 ?_
  refine j_al0 hX dX11_rotate_1 rfl ?_
  refine j_getR (q := 23) hX hG fl_X11_36 rfl rfl (by decide) dX11_rotate_2 ?_
  refine j_getI hX hG fl_X11_161 (Or.inl rfl) (by decide) dX11_rotate_5 ?_
  refine j_pSI2 hX hG lk_X11_358 (ok_X11_around_in (by first | assumption | omega | decide)) (Nat.le_of_ble_eq_true rfl) (Nat.le_of_ble_eq_true rfl) (Nat.le_of_ble_eq_true rfl) rfl dX11_rotate_8 ?_
  refine j_is2 hX dX11_rotate_11 rfl ?_
  refine j_al0 hX dX11_rotate_12 rfl ?_
  refine j_getR (q := 29) hX hG fl_X11_46 rfl rfl (by decide) dX11_rotate_13 ?_
  refine j_al0 hX dX11_rotate_16 rfl ?_
  refine j_getR (q := 23) hX hG fl_X11_36 rfl rfl (by decide) dX11_rotate_17 ?_
  refine j_cVV1 (ci := 7) hX hG lk_X11_158 (ok_X7_copy (by decide) (by decide) (by decide) (by omega)) (by decide) rfl (Nat.le_of_ble_eq_true rfl) (Nat.le_of_ble_eq_true rfl) (Nat.le_of_ble_eq_true rfl) rfl dX11_rotate_20 (fun V_20 h_20 => ?_)
  obtain ⟨a_20, b_20, s_20⟩ := h_20
  dsimp only [Int.reduceAdd] at a_20 b_20 s_20
  have f_20 := fr_s2 s_20
  have l_20 : V_20 23 1 = V 23 1 := f_20 23 1 (by decide)
  have p4 : V_20 33 4 = V 33 4 := f_20 33 4 (by decide)
  have p5 : V_20 33 5 = V 33 5 := f_20 33 5 (by decide)
  try dsimp only [Int.reduceAdd]
  refine j_al0 hX dX11_rotate_23 rfl ?_
  refine j_getR (q := 33) hX hG fl_X11_55 rfl rfl (by decide) dX11_rotate_24 ?_
  refine j_al0 hX dX11_rotate_27 rfl ?_
  refine j_getR (q := 23) hX hG fl_X11_36 rfl rfl (by decide) dX11_rotate_28 ?_
  refine j_iconst hX dX11_rotate_31 ⟨by decide, by decide⟩ ?_
  refine j_iconst hX dX11_rotate_32 ⟨by decide, by decide⟩ ?_
  refine j_cVV3 (ci := 0) hX hG lk_X11_240 (ok_X0_record (by omega) (by omega) (by omega)) (by decide) rfl (Nat.le_of_ble_eq_true rfl) (Nat.le_of_ble_eq_true rfl) (Nat.le_of_ble_eq_true rfl) rfl dX11_rotate_33 (fun V_33 h_33 => ?_)
  obtain ⟨rec_33, f_33⟩ := REC_of h_33
  refine j_iconst hX dX11_rotate_36 ⟨by decide, by decide⟩ ?_
  refine j_is3 hX dX11_rotate_37 rfl ?_
  have lp_38 : ∀ (f9 : Nat) (k : Int) (W : VV), (0 ≤ k ∧ k ≤ V 23 1) → (fr [24] V_33 W) → (∀ j, 0 ≤ j → j < k → W 24 j = V 24 ((j + a % V 23 1) % V 23 1)) → ((V 23 1 - k).toNat) < f9 → J X G 38 [vA 0, vI a, vI (a % V 23 1), vI k] [] W := by
    intro f9
    induction f9 with
    | zero => intro k W _ _ _ hm; exact absurd hm (Nat.not_lt_zero _)
    | succ f9 ih_38 =>
      intro k W hk hs hTT hm
      refine j_il3 hX dX11_rotate_38 ?_
      refine j_al0 hX dX11_rotate_39 rfl ?_
      refine j_getR (q := 23) hX hG fl_X11_36 rfl rfl (by decide) dX11_rotate_40 ?_
      refine j_getI hX hG fl_X11_161 (Or.inl rfl) (by decide) dX11_rotate_43 ?_
      refine j_icmp_ge (tgt := 73) hX dX11_rotate_46 (by decide) (fun h_46 => ?_) (fun h_46 => ?_)
      · skip
        refine j_al0 hX dX11_rotate_73 rfl ?_
        refine j_getR (q := 23) hX hG fl_X11_36 rfl rfl (by decide) dX11_rotate_74 ?_
        refine j_iconst hX dX11_rotate_77 ⟨by decide, by decide⟩ ?_
        refine j_pVI1 (ci := 7) hX hG lk_X11_297 (ok_X7_stateOf (by decide) (by omega)) (by decide) rfl (Nat.le_of_ble_eq_true rfl) (Nat.le_of_ble_eq_true rfl) (Nat.le_of_ble_eq_true rfl) rfl dX11_rotate_78 ?_
        try dsimp only [Int.reduceAdd]
        exact j_retI hR dX11_rotate_81 ⟨rfl, rec_33.c (fun x y hx => f_20 x y (by simp; omega)) (fun x y hx => (hs x y (by simp; omega)).symm), fun k' k0 k1 => hTT k' k0 (by have := (hs 23 1 (by decide)).trans ((f_33 23 1 (by decide)).trans l_20); omega), fr_t (fr_w f_20 (by decide)) (fr_t (fr_w f_33 (by decide)) (fr_w hs (by decide)))⟩
      · skip
        have q23 : W 23 1 = V 23 1 := (hs 23 1 (by decide)).trans ((f_33 23 1 (by decide)).trans l_20)
        have q29 : W 29 1 = V 23 1 := (hs 29 1 (by decide)).trans ((f_33 29 1 (by decide)).trans a_20)
        have q30 : ∀ b, 0 ≤ b → b < V 23 1 → W 30 b = V 24 b := fun b b0 b1 => (hs 30 b (by decide)).trans ((f_33 30 b (by decide)).trans (b_20 b b0 b1))
        refine j_al0 hX dX11_rotate_49 rfl ?_
        refine j_getR (q := 23) hX hG fl_X11_36 rfl rfl (by decide) dX11_rotate_50 ?_
        refine j_il3 hX dX11_rotate_53 ?_
        refine j_al0 hX dX11_rotate_54 rfl ?_
        refine j_getR (q := 29) hX hG fl_X11_46 rfl rfl (by decide) dX11_rotate_55 ?_
        refine j_il3 hX dX11_rotate_58 ?_
        refine j_il2 hX dX11_rotate_59 ?_
        refine j_iadd hX dX11_rotate_60 (by omega) ?_
        refine j_pVI1 (ci := 7) hX hG lk_X11_361 (ok_X7_stateAround (by decide) (by omega)) (by decide) rfl (Nat.le_of_ble_eq_true rfl) (Nat.le_of_ble_eq_true rfl) (Nat.le_of_ble_eq_true rfl) rfl dX11_rotate_61 ?_
        try dsimp only [Int.reduceAdd]
        refine j_eqS (st' := [vI (V 24 ((k + a % V 23 1) % V 23 1)), vI k, vA 23]) (by rw [q29, q30 _ (md_b _ hn.1).1 (md_b _ hn.1).2]) ?_
        refine j_cVV2 (ci := 7) hX hG lk_X11_353 (ok_X7_setTo (by decide) (by omega)) (by decide) rfl (Nat.le_of_ble_eq_true rfl) (Nat.le_of_ble_eq_true rfl) (Nat.le_of_ble_eq_true rfl) rfl dX11_rotate_64 (fun V_64 h_64 => ?_)
        subst h_64
        dsimp only [Int.reduceAdd]
        try dsimp only [Int.reduceAdd]
        refine j_inc3 hX dX11_rotate_67 rfl (by omega) ?_
        refine j_goto (tgt := 38) hX dX11_rotate_70 (by decide) ?_
        exact ih_38 _ _ (by omega) (fr_u hs (by decide)) (lt_stepI (fun j j0 j1 => by rw [up_n _ (by omega)]; exact hTT j j0 j1) (up_s ..)) (by omega)
  exact lp_38 _ _ _ (by omega) fr_0 (fun j j0 j1 => by omega) (Nat.lt_succ_self _)
set_option maxHeartbeats 4000000 in
theorem ok_X11_keep {V : VV} {a : Int} (hn : 1 ≤ V 23 1 ∧ V 23 1 ≤ 16) : OkX yX11_keep cX11_keep 2 (some .int) 8 130 [vA 0, vI a] V (pI (fun x9 V' => (x9 = V 23 1 ∧ 0 ≤ a ∧ a ≤ 1) ∧ ∃ z, z = (if a = 0 then 25 else 27) ∧ V' z 1 = V 23 1 ∧ (∀ b, 0 ≤ b → b < V 23 1 → V' (z + 1) b = V 24 b) ∧ fr [z, z + 1] V V')) (fun E V' => (E = exB ∧ (¬ (0 ≤ a ∧ a ≤ 1)) ∧ V' = V)) := by
  refine OkX.intro (by decide +kernel) (Nat.le_of_ble_eq_true rfl) (fun X G hX hG hR hT hoa hoV => ?_)
  show J X G 0 [vA 0, vI a] [] V
  refine j_il1 hX dX11_keep_0 ?_
  refine j_if_lt (tgt := 9) hX dX11_keep_1 (by decide) (fun h_1 => ?_) (fun h_1 => ?_)
  · skip
    exact j_throwW (text := "no such slot") hX hT th_128 (by decide +kernel) dX11_keep_9 dX11_keep_12 dX11_keep_13 dX11_keep_16 dX11_keep_19 (by decide) (Nat.le_of_ble_eq_true rfl) rfl ⟨rfl, by omega, rfl⟩
  · skip
    refine j_il1 hX dX11_keep_4 ?_
    refine j_iconst hX dX11_keep_5 ⟨by decide, by decide⟩ ?_
    refine j_icmp_le (tgt := 20) hX dX11_keep_6 (by decide) (fun h_6 => ?_) (fun h_6 => ?_)
    · skip
      refine j_al0 hX dX11_keep_20 rfl ?_
      refine j_il1 hX dX11_keep_21 ?_
      refine j_cVA1 (ci := 11) hX (gNC hG) lk_X11_366 (ok_X11_slotOf ) (by decide) rfl (Nat.le_of_ble_eq_true rfl) (Nat.le_of_ble_eq_true rfl) (Nat.le_of_ble_eq_true rfl) rfl dX11_keep_22 (fun x_22 V_22 h_22 => ?_)
      obtain ⟨e_22, e2_22⟩ := h_22
      have e3_22 := e2_22.symm
      subst e3_22
      have z_22 : rng x_22 := by rw [e_22]; split <;> decide
      have n_22 : x_22 ≠ 23 ∧ x_22 + 1 ≠ 23 := by rw [e_22]; split <;> decide
      refine j_al0 hX dX11_keep_25 rfl ?_
      refine j_getR (q := 23) hX hG fl_X11_36 rfl rfl (by decide) dX11_keep_26 ?_
      refine j_cVV1 (ci := 7) hX (gNC hG) lk_X11_158 (ok_X7_copy z_22 (by decide) n_22.1 (by omega)) (by first | assumption | decide | exact ob8 (by assumption) | exact ob7 (by assumption) | exact ob2 (by assumption)) rfl (Nat.le_of_ble_eq_true rfl) (Nat.le_of_ble_eq_true rfl) (Nat.le_of_ble_eq_true rfl) rfl dX11_keep_29 (fun V_29 h_29 => ?_)
      obtain ⟨a_29, b_29, s_29⟩ := h_29
      dsimp only [Int.reduceAdd] at a_29 b_29 s_29
      have f_29 := fr_s2 s_29
      refine j_al0 hX dX11_keep_32 rfl ?_
      refine j_getR (q := 23) hX hG fl_X11_36 rfl rfl (by decide) dX11_keep_33 ?_
      refine j_getI hX hG fl_X11_161 (Or.inl rfl) (by decide) dX11_keep_36 ?_
      exact j_retI hR dX11_keep_39 ⟨⟨f_29 23 1 (by simp; omega), by omega⟩, x_22, e_22, a_29, b_29, f_29⟩
    · skip
      exact j_throwW (text := "no such slot") hX hT th_128 (by decide +kernel) dX11_keep_9 dX11_keep_12 dX11_keep_13 dX11_keep_16 dX11_keep_19 (by decide) (Nat.le_of_ble_eq_true rfl) rfl ⟨rfl, by omega, rfl⟩
set_option maxHeartbeats 4000000 in
theorem ok_X11_multiply {V : VV} {a : Int} {q : Nat} (hgp : GP V 13 q) (h3 : V 15 3 = gO q) (hn : 1 ≤ V 23 1 ∧ V 23 1 ≤ 16) (hQ : ∀ k, 0 ≤ k → k < V 23 1 → 0 ≤ V 24 k ∧ V 24 k < V 15 3) (hcl : 0 ≤ V 33 5 ∧ V 33 5 ≤ 9) (hcc : 0 ≤ V 33 4 ∧ V 33 4 ≤ 10) (hsl : ∀ z, z = 25 ∨ z = 27 → V z 1 = 0 ∨ ((1 ≤ V z 1 ∧ V z 1 ≤ 16) ∧ ∀ k, 0 ≤ k → k < V z 1 → 0 ≤ V (z + 1) k ∧ V (z + 1) k < V 15 3)) : OkX yX11_multiply cX11_multiply 4 (some .int) 8 130 [vA 0, vI a] V (pI (fun x9 V' => (0 ≤ a ∧ a ≤ 1) ∧ ∃ z, z = (if a = 0 then 25 else 27) ∧ (V z 1 = V 23 1 ∧ x9 = prodF q (V' 24) (V 23 1).toNat ∧ ∀ k, 0 ≤ k → k < V 23 1 → V' 24 k = gM q (V 24 k) (V (z + 1) k)) ∧ REC V V' (-1) 0 ∧ fr [24, 33, 34, 35, 36, 37] V V')) (fun E V' => (E = exB ∧ (¬ (0 ≤ a ∧ a ≤ 1)) ∧ V' = V) ∨ (E = exN ∧ ((0 ≤ a ∧ a ≤ 1) ∧ ∃ z, z = (if a = 0 then 25 else 27) ∧ V z 1 = 0) ∧ V' = V) ∨ (E = exS ∧ ((0 ≤ a ∧ a ≤ 1) ∧ ∃ z, z = (if a = 0 then 25 else 27) ∧ V z 1 ≠ 0 ∧ V z 1 ≠ V 23 1) ∧ V' = V)) := by
  refine OkX.intro (by decide +kernel) (Nat.le_of_ble_eq_true rfl) (fun X G hX hG hR hT hoa hoV => ?_)
  show J X G 0 [vA 0, vI a, vU, vU] [] V
  have hq9 := hgp.1
  have hq6 := gO_le hq9
  have hg1 := hgp.2.1
  refine j_il1 hX dX11_multiply_0 ?_
  refine j_if_lt (tgt := 9) hX dX11_multiply_1 (by decide) (fun h_1 => ?_) (fun h_1 => ?_)
  · skip
    exact j_throwW (text := "no such slot") hX hT th_128 (by decide +kernel) dX11_multiply_9 dX11_multiply_12 dX11_multiply_13 dX11_multiply_16 dX11_multiply_19 (by decide) (Nat.le_of_ble_eq_true rfl) rfl (Or.inl ⟨rfl, by omega, rfl⟩)
  · skip
    refine j_il1 hX dX11_multiply_4 ?_
    refine j_iconst hX dX11_multiply_5 ⟨by decide, by decide⟩ ?_
    refine j_icmp_le (tgt := 20) hX dX11_multiply_6 (by decide) (fun h_6 => ?_) (fun h_6 => ?_)
    · skip
      refine j_al0 hX dX11_multiply_20 rfl ?_
      refine j_il1 hX dX11_multiply_21 ?_
      refine j_cVA1 (ci := 11) hX (gNC hG) lk_X11_366 (ok_X11_slotOf ) (by decide) rfl (Nat.le_of_ble_eq_true rfl) (Nat.le_of_ble_eq_true rfl) (Nat.le_of_ble_eq_true rfl) rfl dX11_multiply_22 (fun x_22 V_22 h_22 => ?_)
      obtain ⟨e_22, e2_22⟩ := h_22
      have e3_22 := e2_22.symm
      subst e3_22
      have z_22 : rng x_22 := by rw [e_22]; split <;> decide
      have n_22 : (x_22 = 25 ∨ x_22 = 27) := by rw [e_22]; split <;> simp
      have o_22 : ob NA x_22 7 := by rcases n_22 with e | e <;> rw [e] <;> decide
      refine j_as2 hX dX11_multiply_25 rfl rfl ?_
      refine j_al2 hX dX11_multiply_26 rfl ?_
      refine j_getI hX hG fl_X11_161 (Or.inl rfl) (by first | assumption | decide | exact ob8 (by assumption) | exact ob7 (by assumption) | exact ob2 (by assumption)) dX11_multiply_27 ?_
      refine j_if_ne (tgt := 44) hX dX11_multiply_30 (by decide) (fun h_30 => ?_) (fun h_30 => ?_)
      · skip
        refine j_al2 hX dX11_multiply_44 rfl ?_
        refine j_getI hX hG fl_X11_161 (Or.inl rfl) (by first | assumption | decide | exact ob8 (by assumption) | exact ob7 (by assumption) | exact ob2 (by assumption)) dX11_multiply_45 ?_
        refine j_al0 hX dX11_multiply_48 rfl ?_
        refine j_getR (q := 23) hX hG fl_X11_36 rfl rfl (by decide) dX11_multiply_49 ?_
        refine j_getI hX hG fl_X11_161 (Or.inl rfl) (by decide) dX11_multiply_52 ?_
        refine j_icmp_eq (tgt := 69) hX dX11_multiply_55 (by decide) (fun h_55 => ?_) (fun h_55 => ?_)
        · skip
          refine j_al0 hX dX11_multiply_69 rfl ?_
          refine j_getR (q := 33) hX hG fl_X11_55 rfl rfl (by decide) dX11_multiply_70 ?_
          refine j_al0 hX dX11_multiply_73 rfl ?_
          refine j_getR (q := 23) hX hG fl_X11_36 rfl rfl (by decide) dX11_multiply_74 ?_
          refine j_iconst hX dX11_multiply_77 ⟨by decide, by decide⟩ ?_
          refine j_iconst hX dX11_multiply_78 ⟨by decide, by decide⟩ ?_
          refine j_cVV3 (ci := 0) hX (gNC hG) lk_X11_240 (ok_X0_record (by first | exact hcl | omega) (by first | exact hcc | omega) (by omega)) (by decide) rfl (Nat.le_of_ble_eq_true rfl) (Nat.le_of_ble_eq_true rfl) (Nat.le_of_ble_eq_true rfl) rfl dX11_multiply_79 (fun V_79 h_79 => ?_)
          obtain ⟨rec_79, f_79⟩ := REC_of h_79
          have l_79 : V_79 23 1 = V 23 1 := f_79 23 1 (by decide)
          have g_79 : GP V_79 13 q := hgp.sm (fun b => f_79 13 b (by decide)) (fun b => f_79 14 b (by decide))
          have b_79 : ∀ j, 0 ≤ j → j < V 23 1 → (0 ≤ V 24 j ∧ V 24 j < gO q) ∧ (0 ≤ V (x_22 + 1) j ∧ V (x_22 + 1) j < gO q) := fun j j0 j1 => by
            rw [← h3]
            refine ⟨hQ j j0 j1, ?_⟩
            rcases hsl x_22 n_22 with z | z
            · exact absurd z h_30
            · exact z.2 j j0 (by omega)
          refine j_iconst hX dX11_multiply_82 ⟨by decide, by decide⟩ ?_
          refine j_is3 hX dX11_multiply_83 rfl ?_
          have lp_84 : ∀ (f9 : Nat) (k : Int) (W : VV), (0 ≤ k ∧ k ≤ V 23 1) → (fr [24] V_79 W) → (∀ j, 0 ≤ j → j < k → W 24 j = gM q (V 24 j) (V (x_22 + 1) j)) → (∀ j, k ≤ j → W 24 j = V 24 j) → ((V 23 1 - k).toNat) < f9 → J X G 84 [vA 0, vI a, vA x_22, vI k] [] W := by
            intro f9
            induction f9 with
            | zero => intro k W _ _ _ _ hm; exact absurd hm (Nat.not_lt_zero _)
            | succ f9 ih_84 =>
              intro k W hk hs hTT hUU hm
              refine j_il3 hX dX11_multiply_84 ?_
              refine j_al0 hX dX11_multiply_85 rfl ?_
              refine j_getR (q := 23) hX hG fl_X11_36 rfl rfl (by decide) dX11_multiply_86 ?_
              refine j_getI hX hG fl_X11_161 (Or.inl rfl) (by decide) dX11_multiply_89 ?_
              refine j_icmp_ge (tgt := 129) hX dX11_multiply_92 (by decide) (fun h_92 => ?_) (fun h_92 => ?_)
              · skip
                have gW : GP W 13 q := g_79.sm (fun b => hs 13 b (by decide)) (fun b => hs 14 b (by decide))
                have q23 : W 23 1 = V 23 1 := (hs 23 1 (by decide)).trans l_79
                refine j_al0 hX dX11_multiply_129 rfl ?_
                refine j_getR (q := 23) hX hG fl_X11_36 rfl rfl (by decide) dX11_multiply_130 ?_
                refine j_al0 hX dX11_multiply_133 rfl ?_
                refine j_getR (q := 13) hX hG fl_X11_19 rfl rfl (by decide) dX11_multiply_134 ?_
                refine j_pVI1 (ci := 7) hX (gNC hG) lk_X11_300 (ok_X7_productOfAll (by decide) (Or.inr rfl) gW (by rw [q23]; omega) (fun j j0 j1 => by dsimp only [Int.reduceAdd]; rw [hTT j j0 (by omega)]; have hj := b_79 j j0 (by omega); exact gM_lt hq9 hj.1 hj.2)) (by decide) rfl (Nat.le_of_ble_eq_true rfl) (Nat.le_of_ble_eq_true rfl) (Nat.le_of_ble_eq_true rfl) rfl dX11_multiply_137 ?_
                try dsimp only [Int.reduceAdd]
                exact j_retI hR dX11_multiply_140 ⟨by omega, ⟨x_22, e_22, ⟨h_55, by rw [q23], fun j j0 j1 => hTT j j0 (by omega)⟩, rec_79.c (fun _ _ _ => rfl) (fun x y hx => (hs x y (by simp; omega)).symm), fr_t (fr_w f_79 (by decide)) (fr_w hs (by decide))⟩⟩
              · skip
                have q23 : W 23 1 = V 23 1 := (hs 23 1 (by decide)).trans l_79
                have gW : GP W 13 q := g_79.sm (fun b => hs 13 b (by decide)) (fun b => hs 14 b (by decide))
                have hbk := b_79 k hk.1 (by omega)
                have qz : W (x_22 + 1) k = V (x_22 + 1) k := by rcases n_22 with e | e <;> rw [e] <;> exact (hs _ k (by decide)).trans (f_79 _ k (by decide))
                refine j_al0 hX dX11_multiply_95 rfl ?_
                refine j_getR (q := 23) hX hG fl_X11_36 rfl rfl (by decide) dX11_multiply_96 ?_
                refine j_il3 hX dX11_multiply_99 ?_
                refine j_al0 hX dX11_multiply_100 rfl ?_
                refine j_getR (q := 13) hX hG fl_X11_19 rfl rfl (by decide) dX11_multiply_101 ?_
                refine j_al0 hX dX11_multiply_104 rfl ?_
                refine j_getR (q := 23) hX hG fl_X11_36 rfl rfl (by decide) dX11_multiply_105 ?_
                refine j_il3 hX dX11_multiply_108 ?_
                refine j_pVI1 (ci := 7) hX (gNC hG) lk_X11_297 (ok_X7_stateOf (by decide) (by omega)) (by decide) rfl (Nat.le_of_ble_eq_true rfl) (Nat.le_of_ble_eq_true rfl) (Nat.le_of_ble_eq_true rfl) rfl dX11_multiply_109 ?_
                try dsimp only [Int.reduceAdd]
                refine j_al2 hX dX11_multiply_112 rfl ?_
                refine j_il3 hX dX11_multiply_113 ?_
                refine j_pVI1 (ci := 7) hX (gNC hG) lk_X11_297 (ok_X7_stateOf z_22 (by omega)) (by first | assumption | decide | exact ob8 (by assumption) | exact ob7 (by assumption) | exact ob2 (by assumption)) rfl (Nat.le_of_ble_eq_true rfl) (Nat.le_of_ble_eq_true rfl) (Nat.le_of_ble_eq_true rfl) rfl dX11_multiply_114 ?_
                refine j_eqS (st' := [vI (V (x_22 + 1) k), vI (V 24 k), vA 13, vI k, vA 23]) (by show _ = [vI (W (x_22 + 1) k), vI (W 24 k), vA 13, vI k, vA 23]; rw [qz, hUU k (Int.le_refl _)]) ?_
                refine j_pVI2 (ci := 2) hX (gNC hG) lk_X11_180 (ok_X2_times (Or.inr rfl) gW hbk.1 hbk.2) (by decide) rfl (Nat.le_of_ble_eq_true rfl) (Nat.le_of_ble_eq_true rfl) (Nat.le_of_ble_eq_true rfl) rfl dX11_multiply_117 ?_
                try dsimp only [Int.reduceAdd]
                refine j_cVV2 (ci := 7) hX (gNC hG) lk_X11_353 (ok_X7_setTo (by decide) (by omega)) (by decide) rfl (Nat.le_of_ble_eq_true rfl) (Nat.le_of_ble_eq_true rfl) (Nat.le_of_ble_eq_true rfl) rfl dX11_multiply_120 (fun V_120 h_120 => ?_)
                subst h_120
                dsimp only [Int.reduceAdd]
                try dsimp only [Int.reduceAdd]
                refine j_inc3 hX dX11_multiply_123 rfl (by omega) ?_
                refine j_goto (tgt := 84) hX dX11_multiply_126 (by decide) ?_
                exact ih_84 _ _ (by omega) (fr_u hs (by decide)) (lt_stepI (fun j j0 j1 => by rw [up_n _ (by omega)]; exact hTT j j0 j1) (up_s ..)) (fun j j0 => by rw [up_n _ (by omega)]; exact hUU j (by omega)) (by omega)
          exact lp_84 _ _ _ (by omega) fr_0 (fun j j0 j1 => by omega) (fun j j0 => f_79 24 j (by decide)) (Nat.lt_succ_self _)
        · skip
          exact j_throwW (text := "the ring in the slot has another size") hX hT th_118 (by decide +kernel) dX11_multiply_58 dX11_multiply_61 dX11_multiply_62 dX11_multiply_65 dX11_multiply_68 (by decide) (Nat.le_of_ble_eq_true rfl) rfl (Or.inr (Or.inr ⟨rfl, ⟨by omega, x_22, e_22, h_30, h_55⟩, rfl⟩))
      · skip
        exact j_throwN (text := "the slot is empty") hX hT (by decide +kernel) dX11_multiply_33 dX11_multiply_36 dX11_multiply_37 dX11_multiply_40 dX11_multiply_43 (by decide) (Nat.le_of_ble_eq_true rfl) rfl (Or.inr (Or.inl ⟨rfl, ⟨by omega, x_22, e_22, h_30⟩, rfl⟩))
    · skip
      exact j_throwW (text := "no such slot") hX hT th_128 (by decide +kernel) dX11_multiply_9 dX11_multiply_12 dX11_multiply_13 dX11_multiply_16 dX11_multiply_19 (by decide) (Nat.le_of_ble_eq_true rfl) rfl (Or.inl ⟨rfl, by omega, rfl⟩)
set_option maxHeartbeats 4000000 in
theorem ok_X11_undo {V : VV} (hcl : 0 ≤ V 33 5 ∧ V 33 5 ≤ 9) (hcc : 0 ≤ V 33 4 ∧ V 33 4 ≤ 10) (hu : V 33 4 ≠ 0 → (0 ≤ V 35 (V 33 5) ∧ V 35 (V 33 5) ≤ 16) ∧ (V 36 (V 33 5) = -1 ∨ 0 ≤ V 36 (V 33 5) ∧ V 36 (V 33 5) < 216)) (hv : 0 ≤ V 15 7 ∧ V 15 7 ≤ 1000000) : OkX yX11_undo cX11_undo 1 (some .int) 8 130 [vA 0] V (pI (fun x9 V' => (x9 = V 33 4 - 1 ∧ V 33 4 ≠ 0) ∧ V' 33 5 = (V 33 5 - 1) % 10 ∧ V' 33 4 = V 33 4 - 1 ∧ V' 23 1 = V 35 (V 33 5) ∧ (∀ k, 0 ≤ k → k < V 35 (V 33 5) → V' 24 k = V 34 (V 33 5 * 16 + k)) ∧ (∀ e, V' 16 e = if e = V 36 (V 33 5) ∧ V 36 (V 33 5) ≠ -1 then V 37 (V 33 5) else V 16 e) ∧ V' 15 7 = (if V 36 (V 33 5) = -1 then V 15 7 else V 15 7 + 1) ∧ (∀ b, b ≠ 7 → V' 15 b = V 15 b) ∧ fr [33, 23, 24, 15, 16] V V')) (fun E V' => (E = exS ∧ (V 33 4 = 0) ∧ V' = V)) := by
  refine OkX.intro (by decide +kernel) (Nat.le_of_ble_eq_true rfl) (fun X G hX hG hR hT hoa hoV => ?_)
  show J X G 0 [vA 0] [] V
  refine j_al0 hX dX11_undo_0 rfl ?_
  refine j_getR (q := 33) hX hG fl_X11_55 rfl rfl (by decide) dX11_undo_1 ?_
  refine j_getI hX hG fl_X11_162 (Or.inl rfl) (by decide) dX11_undo_4 ?_
  refine j_if_ne (tgt := 21) hX dX11_undo_7 (by decide) (fun h_7 => ?_) (fun h_7 => ?_)
  · skip
    have hu9 := hu h_7
    refine j_al0 hX dX11_undo_21 rfl ?_
    refine j_getR (q := 33) hX hG fl_X11_55 rfl rfl (by decide) dX11_undo_22 ?_
    refine j_al0 hX dX11_undo_25 rfl ?_
    refine j_getR (q := 23) hX hG fl_X11_36 rfl rfl (by decide) dX11_undo_26 ?_
    refine j_al0 hX dX11_undo_29 rfl ?_
    refine j_getR (q := 15) hX hG fl_X11_26 rfl rfl (by decide) dX11_undo_30 ?_
    refine j_cVV2 (ci := 0) hX (gNC hG) lk_X11_376 (ok_X0_takeBack hcl (by omega) hu9.1 hu9.2 hv) (by decide) rfl (Nat.le_of_ble_eq_true rfl) (Nat.le_of_ble_eq_true rfl) (Nat.le_of_ble_eq_true rfl) rfl dX11_undo_33 (fun V_33 h_33 => ?_)
    have := h_33
    refine j_al0 hX dX11_undo_36 rfl ?_
    refine j_getR (q := 33) hX hG fl_X11_55 rfl rfl (by decide) dX11_undo_37 ?_
    refine j_getI hX hG fl_X11_162 (Or.inl rfl) (by decide) dX11_undo_40 ?_
    exact j_retI hR dX11_undo_43 ⟨⟨h_33.2.1, h_7⟩, h_33⟩
  · skip
    exact j_throwW (text := "there is nothing to undo") hX hT th_118 (by decide +kernel) dX11_undo_10 dX11_undo_13 dX11_undo_14 dX11_undo_17 dX11_undo_20 (by decide) (Nat.le_of_ble_eq_true rfl) rfl ⟨rfl, h_7, rfl⟩
