theorem MG.t {V U : VV} {q : Nat} (h : MG V q) (e : ∀ b, b ≠ 0 → U 55 b = V 55 b) (e' : ∀ a b, a ≠ 55 → U a b = V a b) : MG U q := by
  obtain ⟨h1, h2, h3, h4⟩ := h
  refine ⟨h1, by rw [e 1 (by decide)]; exact h2, fun x y a b c d => by rw [e' 56 _ (by decide)]; exact h3 x y a b c d, fun x a b => by rw [e' 57 _ (by decide)]; exact h4 x a b⟩
theorem gOd_z {q : Nat} {x f z : Int} (hq : q < 7) (hx : 0 ≤ x ∧ x < gO q) (hf : 1 ≤ f ∧ f ≤ gOd q x.toNat) (hz : z = gPw q x.toNat f.toNat) (h : z = 0) : f = (gOd q x.toNat : Int) := by
  refine Classical.byContradiction fun n => ?_
  exact gOd_lt q hq x.toNat (by omega) f.toNat (by omega) (by omega) (by omega)
theorem bor_00 {x : Int} (h : ∃ a : Nat, a < 2 ^ 31 ∧ x = a) : bor 32 x 0 = x := by
  obtain ⟨a, ha, rfl⟩ := h
  have := bor_nat (a := a) (b := 0) ha (by decide)
  rw [Nat.or_zero] at this
  exact this
theorem stF_r {q : Nat} {p : Int → Bool} (hq : q < 7) : ∀ {n : Nat}, n ≤ gO q → ∃ a : Nat, a < 2 ^ 31 ∧ stF p n = a := by
  have hq6 := gO_le hq
  have : ∀ n : Nat, n ≤ gO q → ∃ a : Nat, a < 2 ^ 6 ∧ stF p n = a := by
    intro n
    induction n with
    | zero => exact fun _ => ⟨0, by decide, rfl⟩
    | succ n ih =>
      intro hn
      obtain ⟨a, ha, e⟩ := ih (by omega)
      by_cases z : p n = true
      · refine ⟨a ||| 2 ^ n, Nat.or_lt_two_pow ha (Nat.pow_lt_pow_right (by decide) (by omega)), ?_⟩
        show (if p n = true then _ else _) = _
        rw [if_pos z, e, bor_p (by omega) (by omega)]
      · refine ⟨a, ha, ?_⟩
        show (if p n = true then _ else _) = _
        rw [if_neg z, e]
  intro n hn
  obtain ⟨a, ha, e⟩ := this n hn
  exact ⟨a, by omega, e⟩
theorem hasN_e {s : Nat} {y : Int} (hs : s < 2 ^ 31) (hy : 0 ≤ y ∧ y < 32) : band 32 ((s : Int) / 2 ^ y.toNat) 1 = 1 ↔ s.testBit y.toNat = true := by
  rw [hasN hs hy]
  split <;> simp_all
theorem nIt_stop {q s m : Nat} (h : nIt q (m + 1) s = nIt q m s) : ∀ j, nIt q (m + j) s = nIt q m s
  | 0 => rfl
  | j + 1 => by
    show nIt q (m + j) s ||| nPW q (nIt q (m + j) s) = _
    rw [nIt_stop h j]; exact h
theorem gs_end {q s a h : Nat} {k : Int} (hq : q < 7) (hs : s < 2 ^ gO q) (hk : 0 ≤ k ∧ k ≤ gO q + 1) (ha : a = nIt q k.toNat (s ||| 1)) (hh : (k = 0 ∧ h = 0) ∨ (1 ≤ k ∧ h = nIt q (k - 1).toNat (s ||| 1))) (e : (a : Int) = h) : (a : Int) = nSp q s := by
  rcases hh with ⟨rfl, rfl⟩ | ⟨h1, h2⟩
  · exfalso
    have h0 : s ||| 1 = 0 := by rw [show s ||| 1 = a from ha.symm]; omega
    have h3 : (s ||| 1).testBit 0 = true := by rw [Nat.testBit_or]; simp
    rw [h0] at h3
    cases h3
  · have h3 : nIt q ((k - 1).toNat + 1) (s ||| 1) = nIt q (k - 1).toNat (s ||| 1) := by
      rw [show (k - 1).toNat + 1 = k.toNat by omega, ← ha, ← h2]; omega
    have h4 := nIt_stop h3 (gO q - (k - 1).toNat)
    rw [show (k - 1).toNat + (gO q - (k - 1).toNat) = gO q by omega] at h4
    rw [e, h2, ← h4]; rfl
theorem gs_lt {q s a h : Nat} {k : Int} (hq : q < 7) (hs : s < 2 ^ gO q) (hk : 0 ≤ k ∧ k ≤ gO q + 1) (ha : a = nIt q k.toNat (s ||| 1)) (hh : (k = 0 ∧ h = 0) ∨ (1 ≤ k ∧ h = nIt q (k - 1).toNat (s ||| 1))) (e : ¬ (a : Int) = h) : k + 1 ≤ gO q + 1 := by
  refine Classical.byContradiction fun n => e ?_
  rcases hh with ⟨h1, h2⟩ | ⟨h1, h2⟩
  · omega
  · have h3 := nIt_fix q hq s hs
    rw [ha, h2, show k.toNat = gO q + 1 by omega, show (k - 1).toNat = gO q by omega]
    show ((nSp q s ||| nPW q (nSp q s) : Nat) : Int) = (nSp q s : Nat)
    rw [h3]
def cSq (q s : Nat) : Nat := ((List.range s).filter (fun s => s != 0 && nSp q s == s)).length
theorem cSq_1 (q : Nat) : ((cSq q 1 : Nat) : Int) = 0 := rfl
theorem cSq_b (q s : Nat) : cSq q s ≤ s := by
  unfold cSq
  have := List.length_filter_le (fun s => s != 0 && nSp q s == s) (List.range s)
  rw [List.length_range] at this
  exact this
theorem cSq_S {q s : Nat} : cSq q (s + 1) = cSq q s + (if (s != 0 && nSp q s == s) = true then 1 else 0) := by
  unfold cSq
  rw [List.range_succ, List.filter_append, List.length_append]
  congr 1
  by_cases z : (s != 0 && nSp q s == s) = true
  · rw [if_pos z]; simp only [List.filter, z]; rfl
  · rw [if_neg z]; simp only [List.filter, z]; rfl
theorem cSq_y {q s : Nat} (h1 : 1 ≤ s) (h : (nSp q s : Int) = s) : cSq q (s + 1) = cSq q s + 1 := by
  rw [cSq_S, if_pos]
  have h2 : nSp q s = s := by omega
  rw [h2]
  simp
  omega
theorem cSq_n {q s : Nat} (h : ¬ (nSp q s : Int) = s) : cSq q (s + 1) = cSq q s := by
  rw [cSq_S, if_neg (by intro z; simp at z; omega), Nat.add_zero]
theorem cSq_end {q : Nat} (hq : q < 7) : cSq q (2 ^ gO q) = nSub q := nSub_eq q hq
set_option maxHeartbeats 4000000 in
theorem ok_X12_order {V : VV}  : Ok NA yX12_order cX12_order 1 (some .int) 0 0 [vA 55] V (pI (fun x9 V' => x9 = V 55 1 ∧ V' = up V 55 0 0)) := by
  refine Ok.intro (by decide +kernel) (Nat.le_of_ble_eq_true rfl) (fun X G hX hG hR hoa hoV => ?_)
  show J X G 0 [vA 55] [] V
  refine j_al0 hX dX12_order_0 rfl ?_
  refine j_iconst hX dX12_order_1 ⟨by decide, by decide⟩ ?_
  refine j_putI hX hG fp_X12_126 rfl (by decide) dX12_order_2 ?_
  obtain ⟨U, hU⟩ : ∃ U, U = up V 55 0 0 := ⟨_, rfl⟩
  rw [← hU]
  have u0 : U 55 0 = 0 := by rw [hU]; exact up_s ..
  have uF : ∀ b, b ≠ 0 → U 55 b = V 55 b := fun b hb => by rw [hU]; exact up_n _ (fun q => hb q.2)
  have uC : ∀ a b, a ≠ 55 → U a b = V a b := fun a b ha => by rw [hU]; exact up_n _ (fun q => ha q.1)
  refine j_al0 hX dX12_order_5 rfl ?_
  refine j_getI hX hG fl_X12_136 (Or.inl rfl) (by decide) dX12_order_6 ?_
  exact j_retI hR dX12_order_9 ⟨uF 1 (by decide), hU⟩
set_option maxHeartbeats 4000000 in
theorem ok_X12_width {V : VV}  : Ok NA yX12_width cX12_width 1 (some .int) 0 0 [vA 55] V (pI (fun x9 V' => x9 = V 55 2 ∧ V' = up V 55 0 0)) := by
  refine Ok.intro (by decide +kernel) (Nat.le_of_ble_eq_true rfl) (fun X G hX hG hR hoa hoV => ?_)
  show J X G 0 [vA 55] [] V
  refine j_al0 hX dX12_width_0 rfl ?_
  refine j_iconst hX dX12_width_1 ⟨by decide, by decide⟩ ?_
  refine j_putI hX hG fp_X12_126 rfl (by decide) dX12_width_2 ?_
  obtain ⟨U, hU⟩ : ∃ U, U = up V 55 0 0 := ⟨_, rfl⟩
  rw [← hU]
  have u0 : U 55 0 = 0 := by rw [hU]; exact up_s ..
  have uF : ∀ b, b ≠ 0 → U 55 b = V 55 b := fun b hb => by rw [hU]; exact up_n _ (fun q => hb q.2)
  have uC : ∀ a b, a ≠ 55 → U a b = V a b := fun a b ha => by rw [hU]; exact up_n _ (fun q => ha q.1)
  refine j_al0 hX dX12_width_5 rfl ?_
  refine j_getI hX hG fl_X12_139 (Or.inl rfl) (by decide) dX12_width_6 ?_
  exact j_retI hR dX12_width_9 ⟨uF 2 (by decide), hU⟩
set_option maxHeartbeats 4000000 in
theorem ok_X12_size {V : VV}  : Ok NA yX12_size cX12_size 1 (some .int) 0 0 [vA 55] V (pI (fun x9 V' => x9 = V 55 5 ∧ V' = up V 55 0 0)) := by
  refine Ok.intro (by decide +kernel) (Nat.le_of_ble_eq_true rfl) (fun X G hX hG hR hoa hoV => ?_)
  show J X G 0 [vA 55] [] V
  refine j_al0 hX dX12_size_0 rfl ?_
  refine j_iconst hX dX12_size_1 ⟨by decide, by decide⟩ ?_
  refine j_putI hX hG fp_X12_126 rfl (by decide) dX12_size_2 ?_
  obtain ⟨U, hU⟩ : ∃ U, U = up V 55 0 0 := ⟨_, rfl⟩
  rw [← hU]
  have u0 : U 55 0 = 0 := by rw [hU]; exact up_s ..
  have uF : ∀ b, b ≠ 0 → U 55 b = V 55 b := fun b hb => by rw [hU]; exact up_n _ (fun q => hb q.2)
  have uC : ∀ a b, a ≠ 55 → U a b = V a b := fun a b ha => by rw [hU]; exact up_n _ (fun q => ha q.1)
  refine j_al0 hX dX12_size_5 rfl ?_
  refine j_getI hX hG fl_X12_142 (Or.inl rfl) (by decide) dX12_size_6 ?_
  exact j_retI hR dX12_size_9 ⟨uF 5 (by decide), hU⟩
set_option maxHeartbeats 4000000 in
theorem ok_X12_errorCode {V : VV}  : Ok NA yX12_errorCode cX12_errorCode 1 (some .int) 0 0 [vA 55] V (pI (fun x9 V' => x9 = V 55 29 ∧ V' = up V 55 0 0)) := by
  refine Ok.intro (by decide +kernel) (Nat.le_of_ble_eq_true rfl) (fun X G hX hG hR hoa hoV => ?_)
  show J X G 0 [vA 55] [] V
  refine j_al0 hX dX12_errorCode_0 rfl ?_
  refine j_iconst hX dX12_errorCode_1 ⟨by decide, by decide⟩ ?_
  refine j_putI hX hG fp_X12_126 rfl (by decide) dX12_errorCode_2 ?_
  obtain ⟨U, hU⟩ : ∃ U, U = up V 55 0 0 := ⟨_, rfl⟩
  rw [← hU]
  have u0 : U 55 0 = 0 := by rw [hU]; exact up_s ..
  have uF : ∀ b, b ≠ 0 → U 55 b = V 55 b := fun b hb => by rw [hU]; exact up_n _ (fun q => hb q.2)
  have uC : ∀ a b, a ≠ 55 → U a b = V a b := fun a b ha => by rw [hU]; exact up_n _ (fun q => ha q.1)
  refine j_al0 hX dX12_errorCode_5 rfl ?_
  refine j_getI hX hG fl_X12_201 (Or.inl rfl) (by decide) dX12_errorCode_6 ?_
  exact j_retI hR dX12_errorCode_9 ⟨uF 29 (by decide), hU⟩
set_option maxHeartbeats 4000000 in
theorem ok_X12_errorPosition {V : VV}  : Ok NA yX12_errorPosition cX12_errorPosition 1 (some .int) 0 0 [vA 55] V (pI (fun x9 V' => x9 = V 55 30 ∧ V' = up V 55 0 0)) := by
  refine Ok.intro (by decide +kernel) (Nat.le_of_ble_eq_true rfl) (fun X G hX hG hR hoa hoV => ?_)
  show J X G 0 [vA 55] [] V
  refine j_al0 hX dX12_errorPosition_0 rfl ?_
  refine j_iconst hX dX12_errorPosition_1 ⟨by decide, by decide⟩ ?_
  refine j_putI hX hG fp_X12_126 rfl (by decide) dX12_errorPosition_2 ?_
  obtain ⟨U, hU⟩ : ∃ U, U = up V 55 0 0 := ⟨_, rfl⟩
  rw [← hU]
  have u0 : U 55 0 = 0 := by rw [hU]; exact up_s ..
  have uF : ∀ b, b ≠ 0 → U 55 b = V 55 b := fun b hb => by rw [hU]; exact up_n _ (fun q => hb q.2)
  have uC : ∀ a b, a ≠ 55 → U a b = V a b := fun a b ha => by rw [hU]; exact up_n _ (fun q => ha q.1)
  refine j_al0 hX dX12_errorPosition_5 rfl ?_
  refine j_getI hX hG fl_X12_50 (Or.inl rfl) (by decide) dX12_errorPosition_6 ?_
  exact j_retI hR dX12_errorPosition_9 ⟨uF 30 (by decide), hU⟩
set_option maxHeartbeats 4000000 in
theorem ok_X12_product {V : VV} {x y : Int} {q : Nat} (hmg : MG V q) : Ok NA yX12_product cX12_product 3 (some .int) 2 43 [vA 55, vI x, vI y] V (pI (fun x9 V' => (((0 ≤ x ∧ x < V 55 1) ∧ 0 ≤ y ∧ y < V 55 1) ∧ x9 = gM q x y ∧ V' = up V 55 0 0) ∨ (¬ ((0 ≤ x ∧ x < V 55 1) ∧ 0 ≤ y ∧ y < V 55 1) ∧ x9 = 0 ∧ V' = up (up V 55 0 0) 55 0 1))) := by
  refine Ok.intro (by decide +kernel) (Nat.le_of_ble_eq_true rfl) (fun X G hX hG hR hoa hoV => ?_)
  show J X G 0 [vA 55, vI x, vI y] [] V
  have hq9 := hmg.1
  have hq6 := gO_le hq9
  have e9 : V 55 1 = gO q := hmg.2.1
  refine j_al0 hX dX12_product_0 rfl ?_
  refine j_iconst hX dX12_product_1 ⟨by decide, by decide⟩ ?_
  refine j_putI hX hG fp_X12_126 rfl (by decide) dX12_product_2 ?_
  obtain ⟨U, hU⟩ : ∃ U, U = up V 55 0 0 := ⟨_, rfl⟩
  rw [← hU]
  have u0 : U 55 0 = 0 := by rw [hU]; exact up_s ..
  have uF : ∀ b, b ≠ 0 → U 55 b = V 55 b := fun b hb => by rw [hU]; exact up_n _ (fun q => hb q.2)
  have uC : ∀ a b, a ≠ 55 → U a b = V a b := fun a b ha => by rw [hU]; exact up_n _ (fun q => ha q.1)
  have mgU : MG U q := hmg.t uF uC
  have e8 : U 55 1 = gO q := (uF 1 (by decide)).trans e9
  have jn_27 : ∀ (s : Int), (s = if (0 ≤ x ∧ x < U 55 1) ∧ 0 ≤ y ∧ y < U 55 1 then 1 else 0) → J X G 27 [vA 55, vI x, vI y] [vI s, vA 55] U := by
    intro s hs9
    refine j_iconst hX dX12_product_27 ⟨by decide, by decide⟩ ?_
    refine j_cVI2 (ci := 12) hX hG lk_X12_168 (ok_X12_may u0 (by decide)) (by decide) rfl (Nat.le_of_ble_eq_true rfl) (Nat.le_of_ble_eq_true rfl) (Nat.le_of_ble_eq_true rfl) rfl dX12_product_28 (fun x_28 V_28 h_28 => ?_)
    skip
    refine j_if_eq (tgt := 43) hX dX12_product_31 (by decide) (fun h_31 => ?_) (fun h_31 => ?_)
    · skip
      obtain ⟨c_28, -, w_28⟩ := h_28.elim (fun q => absurd q.2.1 (by omega)) id
      refine j_iconst hX dX12_product_43 ⟨by decide, by decide⟩ ?_
      exact j_retI hR dX12_product_44 (by first | exact Or.inl ⟨by omega, rfl, hU⟩ | exact Or.inr ⟨fun z => by rw [hs9, if_pos (by omega)] at c_28; exact absurd c_28 (by decide), rfl, by rw [w_28, hU]⟩)
    · skip
      obtain ⟨c_28, -, w_28⟩ := h_28.elim id (fun q => absurd q.2.1 (by omega))
      have w2_28 := w_28.symm
      subst w2_28
      have c9 : (0 ≤ x ∧ x < U 55 1) ∧ 0 ≤ y ∧ y < U 55 1 := Classical.byContradiction fun z => c_28 (by rw [hs9, if_neg z])
      refine j_al0 hX dX12_product_34 rfl ?_
      refine j_il1 hX dX12_product_35 ?_
      refine j_il2 hX dX12_product_36 ?_
      refine j_pVI2 (ci := 12) hX hG lk_X12_293 (ok_X12_times mgU (by omega) (by omega)) (by decide) rfl (Nat.le_of_ble_eq_true rfl) (Nat.le_of_ble_eq_true rfl) (Nat.le_of_ble_eq_true rfl) rfl dX12_product_37 ?_
      refine j_goto (tgt := 44) hX dX12_product_40 (by decide) ?_
      exact j_retI hR dX12_product_44 (by first | exact Or.inl ⟨by omega, rfl, hU⟩ | exact Or.inr ⟨fun z => by rw [hs9, if_pos (by omega)] at c_28; exact absurd c_28 (by decide), rfl, by rw [w_28, hU]⟩)
  refine j_al0 hX dX12_product_5 rfl ?_
  refine j_al0 hX dX12_product_6 rfl ?_
  refine j_il1 hX dX12_product_7 ?_
  refine j_pVI1 (ci := 12) hX hG lk_X12_290 (ok_X12_isState (by omega)) (by decide) rfl (Nat.le_of_ble_eq_true rfl) (Nat.le_of_ble_eq_true rfl) (Nat.le_of_ble_eq_true rfl) rfl dX12_product_8 ?_
  refine j_ifz_eq (tgt := 26) hX dX12_product_11 (by decide) (fun h_11 => ?_) (fun h_11 => ?_)
  · skip
    refine j_iconst hX dX12_product_26 ⟨by decide, by decide⟩ ?_
    exact jn_27 _ (by first | exact (if_pos ⟨h_11, h_19⟩).symm | exact (if_neg (fun z => h_11 z.1)).symm | exact (if_neg (fun z => h_19 z.2)).symm)
  · skip
    refine j_al0 hX dX12_product_14 rfl ?_
    refine j_il2 hX dX12_product_15 ?_
    refine j_pVI1 (ci := 12) hX hG lk_X12_290 (ok_X12_isState (by omega)) (by decide) rfl (Nat.le_of_ble_eq_true rfl) (Nat.le_of_ble_eq_true rfl) (Nat.le_of_ble_eq_true rfl) rfl dX12_product_16 ?_
    refine j_ifz_eq (tgt := 26) hX dX12_product_19 (by decide) (fun h_19 => ?_) (fun h_19 => ?_)
    · skip
      refine j_iconst hX dX12_product_26 ⟨by decide, by decide⟩ ?_
      exact jn_27 _ (by first | exact (if_pos ⟨h_11, h_19⟩).symm | exact (if_neg (fun z => h_11 z.1)).symm | exact (if_neg (fun z => h_19 z.2)).symm)
    · skip
      refine j_iconst hX dX12_product_22 ⟨by decide, by decide⟩ ?_
      refine j_goto (tgt := 27) hX dX12_product_23 (by decide) ?_
      exact jn_27 _ (by first | exact (if_pos ⟨h_11, h_19⟩).symm | exact (if_neg (fun z => h_11 z.1)).symm | exact (if_neg (fun z => h_19 z.2)).symm)
set_option maxHeartbeats 4000000 in
theorem ok_X12_orderOf {V : VV} {x : Int} {q : Nat} (hmg : MG V q) (hx : 0 ≤ x ∧ x < gO q) : Ok NA yX12_orderOf cX12_orderOf 4 (some .int) 1 22 [vA 55, vI x] V (pI (fun x9 V' => x9 = (gOd q x.toNat : Int) ∧ V' = V)) := by
  refine Ok.intro (by decide +kernel) (Nat.le_of_ble_eq_true rfl) (fun X G hX hG hR hoa hoV => ?_)
  show J X G 0 [vA 55, vI x, vU, vU] [] V
  have hq9 := hmg.1
  have hq6 := gO_le hq9
  have e9 : V 55 1 = gO q := hmg.2.1
  have ho9 := gOd_ok q hq9 x.toNat (by omega)
  refine j_iconst hX dX12_orderOf_0 ⟨by decide, by decide⟩ ?_
  refine j_is2 hX dX12_orderOf_1 rfl ?_
  refine j_il1 hX dX12_orderOf_2 ?_
  refine j_is3 hX dX12_orderOf_3 rfl ?_
  have lp_4 : ∀ (f9 : Nat) (f z : Int), (1 ≤ f ∧ f ≤ gOd q x.toNat) → (z = gPw q x.toNat f.toNat) → ((7 - f).toNat) < f9 → J X G 4 [vA 55, vI x, vI f, vI z] [] V := by
    intro f9
    induction f9 with
    | zero => intro f z _ _ hm; exact absurd hm (Nat.not_lt_zero _)
    | succ f9 ih_4 =>
      intro f z hf hz hm
      refine j_il3 hX dX12_orderOf_4 ?_
      refine j_if_eq (tgt := 21) hX dX12_orderOf_5 (by decide) (fun h_5 => ?_) (fun h_5 => ?_)
      · skip
        refine j_il2 hX dX12_orderOf_21 ?_
        exact j_retI hR dX12_orderOf_22 ⟨gOd_z hq9 hx hf hz h_5, rfl⟩
      · skip
        refine j_inc2 hX dX12_orderOf_8 rfl (by omega) ?_
        refine j_al0 hX dX12_orderOf_11 rfl ?_
        refine j_il3 hX dX12_orderOf_12 ?_
        refine j_il1 hX dX12_orderOf_13 ?_
        refine j_pVI2 (ci := 12) hX hG lk_X12_293 (ok_X12_times (by first | assumption | omega | decide) (by have h8 := gPw_lt q hq9 x.toNat (by omega) f.toNat (by omega); omega) (by first | assumption | omega | decide)) (by decide) rfl (Nat.le_of_ble_eq_true rfl) (Nat.le_of_ble_eq_true rfl) (Nat.le_of_ble_eq_true rfl) rfl dX12_orderOf_14 ?_
        refine j_is3 hX dX12_orderOf_17 rfl ?_
        refine j_goto (tgt := 4) hX dX12_orderOf_18 (by decide) ?_
        exact ih_4 _ _ (by have h8 := gOd_step hq9 hx hf hz h_5; omega) (by rw [hz, gPw_S hf.1]; rfl) (by omega)
  exact lp_4 _ _ _ (by omega) (by rw [show (1 : Int).toNat = 1 from rfl]; show x = (gN q 0 x.toNat : Nat); rw [(gN_e q hq9 x.toNat (by omega)).2]; omega) (Nat.lt_succ_self _)
set_option maxHeartbeats 4000000 in
theorem ok_X12_commuting {V : VV} {x : Int} {q : Nat} (hmg : MG V q) (hx : 0 ≤ x ∧ x < gO q) : Ok NA yX12_commuting cX12_commuting 4 (some .int) 1 22 [vA 55, vI x] V (pI (fun x9 V' => x9 = stF (fun y => gM q x y == gM q y x) (gO q) ∧ V' = V)) := by
  refine Ok.intro (by decide +kernel) (Nat.le_of_ble_eq_true rfl) (fun X G hX hG hR hoa hoV => ?_)
  show J X G 0 [vA 55, vI x, vU, vU] [] V
  have hq9 := hmg.1
  have hq6 := gO_le hq9
  have e9 : V 55 1 = gO q := hmg.2.1
  refine j_iconst hX dX12_commuting_0 ⟨by decide, by decide⟩ ?_
  refine j_is2 hX dX12_commuting_1 rfl ?_
  refine j_iconst hX dX12_commuting_2 ⟨by decide, by decide⟩ ?_
  refine j_is3 hX dX12_commuting_3 rfl ?_
  have lp_4 : ∀ (f9 : Nat) (s y : Int), (0 ≤ y ∧ y ≤ gO q) → (s = stF (fun y => gM q x y == gM q y x) y.toNat) → ((gO q - y).toNat) < f9 → J X G 4 [vA 55, vI x, vI s, vI y] [] V := by
    intro f9
    induction f9 with
    | zero => intro s y _ _ hm; exact absurd hm (Nat.not_lt_zero _)
    | succ f9 ih_4 =>
      intro s y hy hs hm
      refine j_il3 hX dX12_commuting_4 ?_
      refine j_al0 hX dX12_commuting_5 rfl ?_
      refine j_getI hX hG fl_X12_136 (Or.inl rfl) (by decide) dX12_commuting_6 ?_
      refine j_icmp_ge (tgt := 43) hX dX12_commuting_9 (by decide) (fun h_9 => ?_) (fun h_9 => ?_)
      · skip
        refine j_il2 hX dX12_commuting_43 ?_
        exact j_retI hR dX12_commuting_44 ⟨by rw [hs, show y.toNat = gO q by omega], rfl⟩
      · skip
        refine j_il2 hX dX12_commuting_12 ?_
        refine j_al0 hX dX12_commuting_13 rfl ?_
        refine j_il1 hX dX12_commuting_14 ?_
        refine j_il3 hX dX12_commuting_15 ?_
        refine j_pVI2 (ci := 12) hX hG lk_X12_293 (ok_X12_times (by first | assumption | omega | decide) (by first | assumption | omega | decide) (by first | assumption | omega | decide)) (by decide) rfl (Nat.le_of_ble_eq_true rfl) (Nat.le_of_ble_eq_true rfl) (Nat.le_of_ble_eq_true rfl) rfl dX12_commuting_16 ?_
        refine j_al0 hX dX12_commuting_19 rfl ?_
        refine j_il3 hX dX12_commuting_20 ?_
        refine j_il1 hX dX12_commuting_21 ?_
        refine j_pVI2 (ci := 12) hX hG lk_X12_293 (ok_X12_times (by first | assumption | omega | decide) (by first | assumption | omega | decide) (by first | assumption | omega | decide)) (by decide) rfl (Nat.le_of_ble_eq_true rfl) (Nat.le_of_ble_eq_true rfl) (Nat.le_of_ble_eq_true rfl) rfl dX12_commuting_22 ?_
        refine j_icmp_ne (tgt := 34) hX dX12_commuting_25 (by decide) (fun h_25 => ?_) (fun h_25 => ?_)
        · skip
          refine j_iconst hX dX12_commuting_34 ⟨by decide, by decide⟩ ?_
          refine j_ior hX dX12_commuting_35 ?_
          refine j_is2 hX dX12_commuting_36 rfl ?_
          refine j_inc3 hX dX12_commuting_37 rfl (by omega) ?_
          refine j_goto (tgt := 4) hX dX12_commuting_40 (by decide) ?_
          exact ih_4 _ _ (by omega) (by rw [stF_S hy.1]; first | rw [if_pos (by simpa using h_25), hs] | rw [if_neg (by simpa using h_25), hs, bor_00 (stF_r (q := q) hq9 (by omega))]) (by omega)
        · skip
          refine j_iconst hX dX12_commuting_28 ⟨by decide, by decide⟩ ?_
          refine j_il3 hX dX12_commuting_29 ?_
          refine j_ishl hX dX12_commuting_30 (by omega) (p2_30 (by omega)) ?_
          refine j_goto (tgt := 35) hX dX12_commuting_31 (by decide) ?_
          refine j_ior hX dX12_commuting_35 ?_
          refine j_is2 hX dX12_commuting_36 rfl ?_
          refine j_inc3 hX dX12_commuting_37 rfl (by omega) ?_
          refine j_goto (tgt := 4) hX dX12_commuting_40 (by decide) ?_
          exact ih_4 _ _ (by omega) (by rw [stF_S hy.1]; first | rw [if_pos (by simpa using h_25), hs] | rw [if_neg (by simpa using h_25), hs, bor_00 (stF_r (q := q) hq9 (by omega))]) (by omega)
  exact lp_4 _ _ _ (by omega) rfl (Nat.lt_succ_self _)
set_option maxHeartbeats 4000000 in
theorem ok_X12_conjugates {V : VV} {x : Int} {q : Nat} (hmg : MG V q) (hx : 0 ≤ x ∧ x < gO q) : Ok NA yX12_conjugates cX12_conjugates 4 (some .int) 1 22 [vA 55, vI x] V (pI (fun x9 V' => x9 = stG (fun y => gM q (gM q y x) (gV q y)) (gO q) ∧ V' = V)) := by
  refine Ok.intro (by decide +kernel) (Nat.le_of_ble_eq_true rfl) (fun X G hX hG hR hoa hoV => ?_)
  show J X G 0 [vA 55, vI x, vU, vU] [] V
  have hq9 := hmg.1
  have hq6 := gO_le hq9
  have e9 : V 55 1 = gO q := hmg.2.1
  refine j_iconst hX dX12_conjugates_0 ⟨by decide, by decide⟩ ?_
  refine j_is2 hX dX12_conjugates_1 rfl ?_
  refine j_iconst hX dX12_conjugates_2 ⟨by decide, by decide⟩ ?_
  refine j_is3 hX dX12_conjugates_3 rfl ?_
  have lp_4 : ∀ (f9 : Nat) (s y : Int), (0 ≤ y ∧ y ≤ gO q) → (s = stG (fun y => gM q (gM q y x) (gV q y)) y.toNat) → ((gO q - y).toNat) < f9 → J X G 4 [vA 55, vI x, vI s, vI y] [] V := by
    intro f9
    induction f9 with
    | zero => intro s y _ _ hm; exact absurd hm (Nat.not_lt_zero _)
    | succ f9 ih_4 =>
      intro s y hy hs hm
      refine j_il3 hX dX12_conjugates_4 ?_
      refine j_al0 hX dX12_conjugates_5 rfl ?_
      refine j_getI hX hG fl_X12_136 (Or.inl rfl) (by decide) dX12_conjugates_6 ?_
      refine j_icmp_ge (tgt := 39) hX dX12_conjugates_9 (by decide) (fun h_9 => ?_) (fun h_9 => ?_)
      · skip
        refine j_il2 hX dX12_conjugates_39 ?_
        exact j_retI hR dX12_conjugates_40 ⟨by rw [hs, show y.toNat = gO q by omega], rfl⟩
      · skip
        have z1 := gM_lt hq9 (show 0 ≤ y ∧ y < gO q by omega) hx
        have z2 := gV_lt hq9 (show 0 ≤ y ∧ y < gO q by omega)
        have z3 := gM_lt hq9 z1 z2
        refine j_il2 hX dX12_conjugates_12 ?_
        refine j_iconst hX dX12_conjugates_13 ⟨by decide, by decide⟩ ?_
        refine j_al0 hX dX12_conjugates_14 rfl ?_
        refine j_al0 hX dX12_conjugates_15 rfl ?_
        refine j_il3 hX dX12_conjugates_16 ?_
        refine j_il1 hX dX12_conjugates_17 ?_
        refine j_pVI2 (ci := 12) hX hG lk_X12_293 (ok_X12_times (by first | assumption | omega | decide) (by first | assumption | omega | decide) (by first | assumption | omega | decide)) (by decide) rfl (Nat.le_of_ble_eq_true rfl) (Nat.le_of_ble_eq_true rfl) (Nat.le_of_ble_eq_true rfl) rfl dX12_conjugates_18 ?_
        refine j_al0 hX dX12_conjugates_21 rfl ?_
        refine j_getR (q := 57) hX hG fl_X12_13 rfl rfl (by decide) dX12_conjugates_22 ?_
        refine j_il3 hX dX12_conjugates_25 ?_
        refine j_iald (n := 6) hX hG (by decide) (by omega) dX12_conjugates_26 ?_
        refine j_eqS (st' := [vI (gV q y), vI (gM q y x), vA 55, vI 1, vI s]) (by rw [hmg.2.2.2 y hy.1 (by omega)]) ?_
        refine j_pVI2 (ci := 12) hX hG lk_X12_293 (ok_X12_times (by first | assumption | omega | decide) z1 z2) (by decide) rfl (Nat.le_of_ble_eq_true rfl) (Nat.le_of_ble_eq_true rfl) (Nat.le_of_ble_eq_true rfl) rfl dX12_conjugates_27 ?_
        refine j_ishl hX dX12_conjugates_30 (by omega) (p2_30 (by omega)) ?_
        refine j_ior hX dX12_conjugates_31 ?_
        refine j_is2 hX dX12_conjugates_32 rfl ?_
        refine j_inc3 hX dX12_conjugates_33 rfl (by omega) ?_
        refine j_goto (tgt := 4) hX dX12_conjugates_36 (by decide) ?_
        exact ih_4 _ _ (by omega) (by rw [stG_S hy.1, hs]) (by omega)
  exact lp_4 _ _ _ (by omega) rfl (Nat.lt_succ_self _)
set_option maxHeartbeats 4000000 in
theorem ok_X12_element {V : VV} {x w : Int} {q : Nat} (hmg : MG V q) : Ok NA yX12_element cX12_element 3 (some .int) 2 45 [vA 55, vI x, vI w] V (pI (fun x9 V' => ((0 ≤ x ∧ x < V 55 1) ∧ (0 ≤ w ∧ w ≤ 3) ∧ x9 = elF q x w ∧ V' = up V 55 0 0) ∨ (¬ (0 ≤ x ∧ x < V 55 1) ∧ x9 = 0 ∧ V' = up (up V 55 0 0) 55 0 1) ∨ ((0 ≤ x ∧ x < V 55 1) ∧ ¬ (0 ≤ w ∧ w ≤ 3) ∧ x9 = 0 ∧ V' = up (up V 55 0 0) 55 0 2))) := by
  refine Ok.intro (by decide +kernel) (Nat.le_of_ble_eq_true rfl) (fun X G hX hG hR hoa hoV => ?_)
  show J X G 0 [vA 55, vI x, vI w] [] V
  have hq9 := hmg.1
  have hq6 := gO_le hq9
  have e9 : V 55 1 = gO q := hmg.2.1
  refine j_al0 hX dX12_element_0 rfl ?_
  refine j_iconst hX dX12_element_1 ⟨by decide, by decide⟩ ?_
  refine j_putI hX hG fp_X12_126 rfl (by decide) dX12_element_2 ?_
  obtain ⟨U, hU⟩ : ∃ U, U = up V 55 0 0 := ⟨_, rfl⟩
  rw [← hU]
  have u0 : U 55 0 = 0 := by rw [hU]; exact up_s ..
  have uF : ∀ b, b ≠ 0 → U 55 b = V 55 b := fun b hb => by rw [hU]; exact up_n _ (fun q => hb q.2)
  have uC : ∀ a b, a ≠ 55 → U a b = V a b := fun a b ha => by rw [hU]; exact up_n _ (fun q => ha q.1)
  have mgU : MG U q := hmg.t uF uC
  have e8 : U 55 1 = gO q := (uF 1 (by decide)).trans e9
  refine j_al0 hX dX12_element_5 rfl ?_
  refine j_al0 hX dX12_element_6 rfl ?_
  refine j_il1 hX dX12_element_7 ?_
  refine j_pVI1 (ci := 12) hX hG lk_X12_290 (ok_X12_isState (by omega)) (by decide) rfl (Nat.le_of_ble_eq_true rfl) (Nat.le_of_ble_eq_true rfl) (Nat.le_of_ble_eq_true rfl) rfl dX12_element_8 ?_
  refine j_iconst hX dX12_element_11 ⟨by decide, by decide⟩ ?_
  refine j_cVI2 (ci := 12) hX hG lk_X12_168 (ok_X12_may u0 (by decide)) (by decide) rfl (Nat.le_of_ble_eq_true rfl) (Nat.le_of_ble_eq_true rfl) (Nat.le_of_ble_eq_true rfl) rfl dX12_element_12 (fun x_12 V_12 h_12 => ?_)
  skip
  refine j_if_eq (tgt := 32) hX dX12_element_15 (by decide) (fun h_15 => ?_) (fun h_15 => ?_)
  · skip
    refine j_iconst hX dX12_element_32 ⟨by decide, by decide⟩ ?_
    exact j_retI hR dX12_element_33 (by first
      | (obtain ⟨c, -, w9⟩ := h_26.elim (fun q => absurd q.2.1 (by omega)) id
         exact Or.inr (Or.inr ⟨by omega, fun z => by rw [if_pos z] at c; exact absurd c (by decide), rfl, by rw [w9, hU]⟩))
      | (obtain ⟨c, -, w9⟩ := h_12.elim (fun q => absurd q.2.1 (by omega)) id
         exact Or.inr (Or.inl ⟨fun z => by rw [if_pos (by omega)] at c; exact absurd c (by decide), rfl, by rw [w9, hU]⟩)))
  · skip
    obtain ⟨c_12, -, w_12⟩ := h_12.elim id (fun q => absurd q.2.1 (by omega))
    have w2_12 := w_12.symm
    subst w2_12
    have c9 : 0 ≤ x ∧ x < U 55 1 := Classical.byContradiction fun z => c_12 (if_neg z)
    refine j_al0 hX dX12_element_18 rfl ?_
    refine j_il2 hX dX12_element_19 ?_
    refine j_iconst hX dX12_element_20 ⟨by decide, by decide⟩ ?_
    refine j_iconst hX dX12_element_21 ⟨by decide, by decide⟩ ?_
    refine j_pSI3 hX hG lk_X12_172 (ok_X12_isIn ) (Nat.le_of_ble_eq_true rfl) (Nat.le_of_ble_eq_true rfl) (Nat.le_of_ble_eq_true rfl) rfl dX12_element_22 ?_
    refine j_iconst hX dX12_element_25 ⟨by decide, by decide⟩ ?_
    refine j_cVI2 (ci := 12) hX hG lk_X12_168 (ok_X12_may u0 (by decide)) (by decide) rfl (Nat.le_of_ble_eq_true rfl) (Nat.le_of_ble_eq_true rfl) (Nat.le_of_ble_eq_true rfl) rfl dX12_element_26 (fun x_26 V_26 h_26 => ?_)
    skip
    refine j_if_ne (tgt := 34) hX dX12_element_29 (by decide) (fun h_29 => ?_) (fun h_29 => ?_)
    · skip
      obtain ⟨c_26, -, w_26⟩ := h_26.elim id (fun q => absurd q.2.1 (by omega))
      have w2_26 := w_26.symm
      subst w2_26
      have d9 : 0 ≤ w ∧ w ≤ 3 := Classical.byContradiction fun z => c_26 (if_neg z)
      refine j_il2 hX dX12_element_34 ?_
      by_cases sw_35 : 0 ≤ w ∧ w ≤ 2
      · skip
        have sx_35 : w = 0 ∨ w = 1 ∨ w = 2 := by omega
        rcases sx_35 with sv_35 | sv_35 | sv_35
        · skip
          refine j_tabIn (tgt := 60) hX dX12_element_35 sw_35 (by rw [sv_35]; rfl) (by decide) ?_
          refine j_al0 hX dX12_element_60 rfl ?_
          refine j_getR (q := 57) hX hG fl_X12_13 rfl rfl (by decide) dX12_element_61 ?_
          refine j_il1 hX dX12_element_64 ?_
          refine j_iald (n := 6) hX hG (by decide) (by omega) dX12_element_65 ?_
          refine j_eqS (st' := [vI (gV q x)]) (by rw [mgU.2.2.2 x c9.1 (by omega)]) ?_
          exact j_retI hR dX12_element_66 (Or.inl ⟨by omega, d9, by unfold elF; first | exact (if_pos (by omega)).symm | (rw [if_neg (by omega)]; exact (if_pos (by omega)).symm) | (rw [if_neg (by omega), if_neg (by omega)]; exact (if_pos (by omega)).symm) | rw [if_neg (by omega), if_neg (by omega), if_neg (by omega)], hU⟩)
        · skip
          refine j_tabIn (tgt := 67) hX dX12_element_35 sw_35 (by rw [sv_35]; rfl) (by decide) ?_
          refine j_al0 hX dX12_element_67 rfl ?_
          refine j_il1 hX dX12_element_68 ?_
          refine j_pVI1 (ci := 12) hX hG lk_X12_296 (ok_X12_orderOf mgU (by omega)) (by decide) rfl (Nat.le_of_ble_eq_true rfl) (Nat.le_of_ble_eq_true rfl) (Nat.le_of_ble_eq_true rfl) rfl dX12_element_69 ?_
          exact j_retI hR dX12_element_72 (Or.inl ⟨by omega, d9, by unfold elF; first | exact (if_pos (by omega)).symm | (rw [if_neg (by omega)]; exact (if_pos (by omega)).symm) | (rw [if_neg (by omega), if_neg (by omega)]; exact (if_pos (by omega)).symm) | rw [if_neg (by omega), if_neg (by omega), if_neg (by omega)], hU⟩)
        · skip
          refine j_tabIn (tgt := 73) hX dX12_element_35 sw_35 (by rw [sv_35]; rfl) (by decide) ?_
          refine j_al0 hX dX12_element_73 rfl ?_
          refine j_il1 hX dX12_element_74 ?_
          refine j_pVI1 (ci := 12) hX hG lk_X12_299 (ok_X12_commuting mgU (by omega)) (by decide) rfl (Nat.le_of_ble_eq_true rfl) (Nat.le_of_ble_eq_true rfl) (Nat.le_of_ble_eq_true rfl) rfl dX12_element_75 ?_
          exact j_retI hR dX12_element_78 (Or.inl ⟨by omega, d9, by unfold elF; first | exact (if_pos (by omega)).symm | (rw [if_neg (by omega)]; exact (if_pos (by omega)).symm) | (rw [if_neg (by omega), if_neg (by omega)]; exact (if_pos (by omega)).symm) | rw [if_neg (by omega), if_neg (by omega), if_neg (by omega)], hU⟩)
      · skip
        refine j_tabOut (tgt := 79) hX dX12_element_35 (by omega) (by decide) ?_
        refine j_al0 hX dX12_element_79 rfl ?_
        refine j_il1 hX dX12_element_80 ?_
        refine j_pVI1 (ci := 12) hX hG lk_X12_302 (ok_X12_conjugates mgU (by omega)) (by decide) rfl (Nat.le_of_ble_eq_true rfl) (Nat.le_of_ble_eq_true rfl) (Nat.le_of_ble_eq_true rfl) rfl dX12_element_81 ?_
        exact j_retI hR dX12_element_84 (Or.inl ⟨by omega, d9, by unfold elF; first | exact (if_pos (by omega)).symm | (rw [if_neg (by omega)]; exact (if_pos (by omega)).symm) | (rw [if_neg (by omega), if_neg (by omega)]; exact (if_pos (by omega)).symm) | rw [if_neg (by omega), if_neg (by omega), if_neg (by omega)], hU⟩)
    · skip
      refine j_iconst hX dX12_element_32 ⟨by decide, by decide⟩ ?_
      exact j_retI hR dX12_element_33 (by first
      | (obtain ⟨c, -, w9⟩ := h_26.elim (fun q => absurd q.2.1 (by omega)) id
         exact Or.inr (Or.inr ⟨by omega, fun z => by rw [if_pos z] at c; exact absurd c (by decide), rfl, by rw [w9, hU]⟩))
      | (obtain ⟨c, -, w9⟩ := h_12.elim (fun q => absurd q.2.1 (by omega)) id
         exact Or.inr (Or.inl ⟨fun z => by rw [if_pos (by omega)] at c; exact absurd c (by decide), rfl, by rw [w9, hU]⟩)))
set_option maxHeartbeats 4000000 in
theorem ok_X12_has {V : VV} {s k : Int} (hk : 0 ≤ k ∧ k < 32) : Ok NA yX12_has cX12_has 2 (some .boolean) 0 0 [vI s, vI k] V (pI (fun x9 V' => x9 = (if band 32 (s / 2 ^ k.toNat) 1 = 1 then 1 else 0) ∧ V' = V)) := by
  refine Ok.intro (by decide +kernel) (Nat.le_of_ble_eq_true rfl) (fun X G hX hG hR hoa hoV => ?_)
  show J X G 0 [vI s, vI k] [] V
  refine j_il0 hX dX12_has_0 ?_
  refine j_il1 hX dX12_has_1 ?_
  refine j_ishr hX dX12_has_2 hk ?_
  refine j_iconst hX dX12_has_3 ⟨by decide, by decide⟩ ?_
  refine j_iand hX dX12_has_4 ?_
  refine j_iconst hX dX12_has_5 ⟨by decide, by decide⟩ ?_
  refine j_icmp_ne (tgt := 13) hX dX12_has_6 (by decide) (fun h_6 => ?_) (fun h_6 => ?_)
  · skip
    refine j_iconst hX dX12_has_13 ⟨by decide, by decide⟩ ?_
    exact j_retZ hR dX12_has_14 (by omega) ⟨by first | exact (if_pos (by omega)).symm | exact (if_neg (by omega)).symm, rfl⟩
  · skip
    refine j_iconst hX dX12_has_9 ⟨by decide, by decide⟩ ?_
    refine j_goto (tgt := 14) hX dX12_has_10 (by decide) ?_
    exact j_retZ hR dX12_has_14 (by omega) ⟨by first | exact (if_pos (by omega)).symm | exact (if_neg (by omega)).symm, rfl⟩
set_option maxHeartbeats 4000000 in
theorem ok_X12_generatedBy {V : VV} {q s : Nat} (hmg : MG V q) (hs0 : s < 2 ^ gO q) : Ok NA yX12_generatedBy cX12_generatedBy 6 (some .int) 1 22 [vA 55, vI (s : Int)] V (pI (fun x9 V' => x9 = (nSp q s : Int) ∧ V' = V)) := by
  refine Ok.intro (by decide +kernel) (Nat.le_of_ble_eq_true rfl) (fun X G hX hG hR hoa hoV => ?_)
  show J X G 0 [vA 55, vI (s : Int), vU, vU, vU, vU] [] V
  have hq9 := hmg.1
  have hq6 := gO_le hq9
  have e9 : V 55 1 = gO q := hmg.2.1
  have h64 := gO_64 hq9
  have h1 := nor1_lt hq6 hs0
  refine j_il1 hX dX12_generatedBy_0 ?_
  refine j_iconst hX dX12_generatedBy_1 ⟨by decide, by decide⟩ ?_
  refine j_ior hX dX12_generatedBy_2 ?_
  refine j_is2 hX dX12_generatedBy_3 rfl ?_
  refine j_iconst hX dX12_generatedBy_4 ⟨by decide, by decide⟩ ?_
  refine j_is3 hX dX12_generatedBy_5 rfl ?_
  have lp_6 : ∀ (f9 : Nat) (k : Int) (a h : Nat), (0 ≤ k ∧ k ≤ gO q + 1) → (a = nIt q k.toNat (s ||| 1)) → ((k = 0 ∧ h = 0) ∨ (1 ≤ k ∧ h = nIt q (k - 1).toNat (s ||| 1))) → ((gO q + 2 - k).toNat) < f9 → J X G 6 [vA 55, vI (s : Int), vI (a : Int), vI (h : Int), vU, vU] [] V := by
    intro f9
    induction f9 with
    | zero => intro k a h _ _ _ hm; exact absurd hm (Nat.not_lt_zero _)
    | succ f9 ih_6 =>
      intro k a h hk ha hh hm
      refine j_il2 hX dX12_generatedBy_6 ?_
      refine j_il3 hX dX12_generatedBy_7 ?_
      have ha9 : a < 2 ^ gO q := by rw [ha]; exact nIt_lt hq9 h1 _
      refine j_icmp_eq (tgt := 83) hX dX12_generatedBy_8 (by decide) (fun h_8 => ?_) (fun h_8 => ?_)
      · skip
        refine j_il2 hX dX12_generatedBy_83 ?_
        exact j_retI hR dX12_generatedBy_84 ⟨by rw [gs_end hq9 hs0 hk ha hh h_8], rfl⟩
      · skip
        refine j_il2 hX dX12_generatedBy_11 ?_
        refine j_is3 hX dX12_generatedBy_12 rfl ?_
        refine j_iconst hX dX12_generatedBy_13 ⟨by decide, by decide⟩ ?_
        refine j_is4 hX dX12_generatedBy_14 rfl ?_
        have lp_16 : ∀ (f9 : Nat) (x : Int) (b : Nat), (0 ≤ x ∧ x ≤ gO q) → (b = a ||| nOu q a x.toNat) → ((gO q - x).toNat) < f9 → J X G 16 [vA 55, vI (s : Int), vI (b : Int), vI (a : Int), vI x, vU] [] V := by
          intro f9
          induction f9 with
          | zero => intro x b _ _ hm; exact absurd hm (Nat.not_lt_zero _)
          | succ f9 ih_16 =>
            intro x b hx hbx hm
            refine j_il4 hX dX12_generatedBy_16 ?_
            refine j_al0 hX dX12_generatedBy_18 rfl ?_
            refine j_getI hX hG fl_X12_136 (Or.inl rfl) (by decide) dX12_generatedBy_19 ?_
            refine j_icmp_ge (tgt := 80) hX dX12_generatedBy_22 (by decide) (fun h_22 => ?_) (fun h_22 => ?_)
            · skip
              refine j_goto (tgt := 6) hX dX12_generatedBy_80 (by decide) ?_
              refine j_fg4 ?_
              exact ih_6 (k + 1) _ _ ⟨by omega, gs_lt hq9 hs0 hk ha hh h_8⟩ (by rw [nIt_S hk.1, ← ha, hbx, show x.toNat = gO q by omega]; rfl) (Or.inr ⟨by omega, by rw [show k + 1 - 1 = k by omega]; exact ha⟩) (by omega)
            · skip
              refine j_iconst hX dX12_generatedBy_25 ⟨by decide, by decide⟩ ?_
              refine j_is5 hX dX12_generatedBy_26 rfl ?_
              have lp_28 : ∀ (f9 : Nat) (y : Int) (c : Nat), (0 ≤ y ∧ y ≤ gO q) → (c = a ||| nIn q a x.toNat y.toNat (nOu q a x.toNat)) → ((gO q - y).toNat) < f9 → J X G 28 [vA 55, vI (s : Int), vI (c : Int), vI (a : Int), vI x, vI y] [] V := by
                intro f9
                induction f9 with
                | zero => intro y c _ _ hm; exact absurd hm (Nat.not_lt_zero _)
                | succ f9 ih_28 =>
                  intro y c hy hcy hm
                  refine j_il5 hX dX12_generatedBy_28 ?_
                  refine j_al0 hX dX12_generatedBy_30 rfl ?_
                  refine j_getI hX hG fl_X12_136 (Or.inl rfl) (by decide) dX12_generatedBy_31 ?_
                  refine j_icmp_ge (tgt := 74) hX dX12_generatedBy_34 (by decide) (fun h_34 => ?_) (fun h_34 => ?_)
                  · skip
                    refine j_inc4 hX dX12_generatedBy_74 rfl (by omega) ?_
                    refine j_goto (tgt := 16) hX dX12_generatedBy_77 (by decide) ?_
                    refine j_fg5 ?_
                    exact ih_16 _ _ (by omega) (by rw [nOu_S hx.1, hcy, show y.toNat = gO q by omega]) (by omega)
                  · skip
                    refine j_il3 hX dX12_generatedBy_37 ?_
                    refine j_il4 hX dX12_generatedBy_38 ?_
                    refine j_pSI2 hX hG lk_X12_305 (ok_X12_has (by omega)) (Nat.le_of_ble_eq_true rfl) (Nat.le_of_ble_eq_true rfl) (Nat.le_of_ble_eq_true rfl) rfl dX12_generatedBy_40 ?_
                    refine j_ifz_eq (tgt := 68) hX dX12_generatedBy_43 (by decide) (fun h_43 => ?_) (fun h_43 => ?_)
                    · skip
                      refine j_inc5 hX dX12_generatedBy_68 rfl (by omega) ?_
                      refine j_goto (tgt := 28) hX dX12_generatedBy_71 (by decide) ?_
                      exact ih_28 _ _ (by omega) (by rw [nIn_S hy.1]; first | (rw [if_pos (by rw [(hasN_e (by omega) (by omega)).mp h_43, (hasN_e (by omega) (by omega)).mp h_52]; rfl), ← Nat.or_assoc, hcy]) | (rw [if_neg (by simp only [Bool.and_eq_true, not_and]; first | (intro q8 q7; exact h_52 ((hasN_e (by omega) (by omega)).mpr q7)) | (intro q8; exact absurd ((hasN_e (by omega) (by omega)).mpr q8) h_43)), hcy])) (by omega)
                    · skip
                      refine j_il3 hX dX12_generatedBy_46 ?_
                      refine j_il5 hX dX12_generatedBy_47 ?_
                      refine j_pSI2 hX hG lk_X12_305 (ok_X12_has (by omega)) (Nat.le_of_ble_eq_true rfl) (Nat.le_of_ble_eq_true rfl) (Nat.le_of_ble_eq_true rfl) rfl dX12_generatedBy_49 ?_
                      refine j_ifz_eq (tgt := 68) hX dX12_generatedBy_52 (by decide) (fun h_52 => ?_) (fun h_52 => ?_)
                      · skip
                        refine j_inc5 hX dX12_generatedBy_68 rfl (by omega) ?_
                        refine j_goto (tgt := 28) hX dX12_generatedBy_71 (by decide) ?_
                        exact ih_28 _ _ (by omega) (by rw [nIn_S hy.1]; first | (rw [if_pos (by rw [(hasN_e (by omega) (by omega)).mp h_43, (hasN_e (by omega) (by omega)).mp h_52]; rfl), ← Nat.or_assoc, hcy]) | (rw [if_neg (by simp only [Bool.and_eq_true, not_and]; first | (intro q8 q7; exact h_52 ((hasN_e (by omega) (by omega)).mpr q7)) | (intro q8; exact absurd ((hasN_e (by omega) (by omega)).mpr q8) h_43)), hcy])) (by omega)
                      · skip
                        have hx9 : 0 ≤ x ∧ x < gO q := by omega
                        have hy9 : 0 ≤ y ∧ y < gO q := by omega
                        have hm9 := gM_lt hq9 hx9 hy9
                        have hc9 : c < 2 ^ gO q := by rw [hcy]; exact Nat.or_lt_two_pow ha9 (nIn_lt hq9 (by omega) _ (by omega) _ (nOu_lt hq9 _ (by omega)))
                        refine j_il2 hX dX12_generatedBy_55 ?_
                        refine j_iconst hX dX12_generatedBy_56 ⟨by decide, by decide⟩ ?_
                        refine j_al0 hX dX12_generatedBy_57 rfl ?_
                        refine j_il4 hX dX12_generatedBy_58 ?_
                        refine j_il5 hX dX12_generatedBy_60 ?_
                        refine j_pVI2 (ci := 12) hX hG lk_X12_293 (ok_X12_times (by first | assumption | omega | decide) hx9 hy9) (by decide) rfl (Nat.le_of_ble_eq_true rfl) (Nat.le_of_ble_eq_true rfl) (Nat.le_of_ble_eq_true rfl) rfl dX12_generatedBy_62 ?_
                        refine j_ishl hX dX12_generatedBy_65 (by omega) (p2_30 (by omega)) ?_
                        refine j_ior hX dX12_generatedBy_66 ?_
                        refine j_eqS (st' := [vI ((c ||| 2 ^ gN q x.toNat y.toNat : Nat) : Int)]) (by rw [bor_g hq9 hx9 hy9 hc9]) ?_
                        refine j_is2 hX dX12_generatedBy_67 rfl ?_
                        refine j_inc5 hX dX12_generatedBy_68 rfl (by omega) ?_
                        refine j_goto (tgt := 28) hX dX12_generatedBy_71 (by decide) ?_
                        exact ih_28 _ _ (by omega) (by rw [nIn_S hy.1]; first | (rw [if_pos (by rw [(hasN_e (by omega) (by omega)).mp h_43, (hasN_e (by omega) (by omega)).mp h_52]; rfl), ← Nat.or_assoc, hcy]) | (rw [if_neg (by simp only [Bool.and_eq_true, not_and]; first | (intro q8 q7; exact h_52 ((hasN_e (by omega) (by omega)).mpr q7)) | (intro q8; exact absurd ((hasN_e (by omega) (by omega)).mpr q8) h_43)), hcy])) (by omega)
              exact lp_28 _ _ _ (by omega) hbx (Nat.lt_succ_self _)
        exact lp_16 _ _ _ (by omega) (by show a = a ||| 0; rw [Nat.or_zero]) (Nat.lt_succ_self _)
  have e1 : bor 32 (s : Int) 1 = ((s ||| 1 : Nat) : Int) := bor_p (a := s) (k := 0) (by omega) (by decide)
  refine j_eqL (ls' := [vA 55, vI (s : Int), vI ((s ||| 1 : Nat) : Int), vI ((0 : Nat) : Int), vU, vU]) (by rw [e1]; rfl) ?_
  exact lp_6 _ 0 (s ||| 1) 0 (by omega) rfl (Or.inl ⟨rfl, rfl⟩) (Nat.lt_succ_self _)
set_option maxHeartbeats 4000000 in
theorem ok_X12_generated {V : VV} {s : Int} {q : Nat} (hmg : MG V q) : Ok NA yX12_generated cX12_generated 2 (some .int) 2 47 [vA 55, vI s] V (pI (fun x9 V' => ((0 ≤ s ∧ s < 2 ^ gO q) ∧ x9 = (nSp q s.toNat : Int) ∧ V' = up V 55 0 0) ∨ (¬ (0 ≤ s ∧ s < 2 ^ gO q) ∧ x9 = 0 ∧ V' = up (up V 55 0 0) 55 0 1))) := by
  refine Ok.intro (by decide +kernel) (Nat.le_of_ble_eq_true rfl) (fun X G hX hG hR hoa hoV => ?_)
  show J X G 0 [vA 55, vI s] [] V
  have hq9 := hmg.1
  have hq6 := gO_le hq9
  have e9 : V 55 1 = gO q := hmg.2.1
  have hp9 : ((2 ^ gO q : Nat) : Int) = 2 ^ gO q := by push_cast; rfl
  have h64 := gO_64 hq9
  have hp1 : (0 : Int) < 2 ^ gO q := Int.pow_pos (by decide)
  refine j_al0 hX dX12_generated_0 rfl ?_
  refine j_iconst hX dX12_generated_1 ⟨by decide, by decide⟩ ?_
  refine j_putI hX hG fp_X12_126 rfl (by decide) dX12_generated_2 ?_
  obtain ⟨U, hU⟩ : ∃ U, U = up V 55 0 0 := ⟨_, rfl⟩
  rw [← hU]
  have u0 : U 55 0 = 0 := by rw [hU]; exact up_s ..
  have uF : ∀ b, b ≠ 0 → U 55 b = V 55 b := fun b hb => by rw [hU]; exact up_n _ (fun q => hb q.2)
  have uC : ∀ a b, a ≠ 55 → U a b = V a b := fun a b ha => by rw [hU]; exact up_n _ (fun q => ha q.1)
  have mgU : MG U q := hmg.t uF uC
  have e8 : U 55 1 = gO q := (uF 1 (by decide)).trans e9
  refine j_al0 hX dX12_generated_5 rfl ?_
  refine j_il1 hX dX12_generated_6 ?_
  refine j_iconst hX dX12_generated_7 ⟨by decide, by decide⟩ ?_
  refine j_iconst hX dX12_generated_8 ⟨by decide, by decide⟩ ?_
  refine j_al0 hX dX12_generated_9 rfl ?_
  refine j_getI hX hG fl_X12_136 (Or.inl rfl) (by decide) dX12_generated_10 ?_
  refine j_eqS (st' := [vI (gO q), vI 1, vI 0, vI s, vA 55]) (by rw [e8]) ?_
  refine j_ishl hX dX12_generated_13 (by omega) (p2_30 (by omega)) ?_
  refine j_iconst hX dX12_generated_14 ⟨by decide, by decide⟩ ?_
  refine j_isub hX dX12_generated_15 (by rw [Int.one_mul, Int.toNat_natCast, ← hp9]; omega) ?_
  refine j_pSI3 hX hG lk_X12_172 (ok_X12_isIn ) (Nat.le_of_ble_eq_true rfl) (Nat.le_of_ble_eq_true rfl) (Nat.le_of_ble_eq_true rfl) rfl dX12_generated_16 ?_
  refine j_iconst hX dX12_generated_19 ⟨by decide, by decide⟩ ?_
  refine j_eqS (st' := [vI 1, vI (if 0 ≤ s ∧ s < 2 ^ gO q then 1 else 0), vA 55]) (by rw [Int.one_mul, Int.toNat_natCast]; by_cases z : 0 ≤ s ∧ s < 2 ^ gO q; (rw [if_pos z, if_pos (by omega)]); (rw [if_neg z, if_neg (by omega)])) ?_
  refine j_cVI2 (ci := 12) hX hG lk_X12_168 (ok_X12_may u0 (by decide)) (by decide) rfl (Nat.le_of_ble_eq_true rfl) (Nat.le_of_ble_eq_true rfl) (Nat.le_of_ble_eq_true rfl) rfl dX12_generated_20 (fun x_20 V_20 h_20 => ?_)
  skip
  refine j_if_eq (tgt := 34) hX dX12_generated_23 (by decide) (fun h_23 => ?_) (fun h_23 => ?_)
  · skip
    obtain ⟨c_20, -, w_20⟩ := h_20.elim (fun q => absurd q.2.1 (by omega)) id
    refine j_iconst hX dX12_generated_34 ⟨by decide, by decide⟩ ?_
    exact j_retI hR dX12_generated_35 (by first | exact Or.inl ⟨c9, rfl, hU⟩ | exact Or.inr ⟨fun z => by rw [if_pos z] at c_20; exact absurd c_20 (by decide), rfl, by rw [w_20, hU]⟩)
  · skip
    obtain ⟨c_20, -, w_20⟩ := h_20.elim id (fun q => absurd q.2.1 (by omega))
    have w2_20 := w_20.symm
    subst w2_20
    have c9 : 0 ≤ s ∧ s < 2 ^ gO q := Classical.byContradiction fun z => c_20 (if_neg z)
    refine j_al0 hX dX12_generated_26 rfl ?_
    refine j_il1 hX dX12_generated_27 ?_
    refine j_eqS (st' := [vI ((s.toNat : Nat) : Int), vA 55]) (by rw [show ((s.toNat : Nat) : Int) = s by omega]) ?_
    refine j_pVI1 (ci := 12) hX hG lk_X12_309 (ok_X12_generatedBy mgU (by omega)) (by decide) rfl (Nat.le_of_ble_eq_true rfl) (Nat.le_of_ble_eq_true rfl) (Nat.le_of_ble_eq_true rfl) rfl dX12_generated_28 ?_
    refine j_goto (tgt := 35) hX dX12_generated_31 (by decide) ?_
    exact j_retI hR dX12_generated_35 (by first | exact Or.inl ⟨c9, rfl, hU⟩ | exact Or.inr ⟨fun z => by rw [if_pos z] at c_20; exact absurd c_20 (by decide), rfl, by rw [w_20, hU]⟩)
set_option maxHeartbeats 4000000 in
theorem ok_X12_subgroups {V : VV} {q : Nat} (hmg : MG V q) : Ok NA yX12_subgroups cX12_subgroups 3 (some .int) 2 47 [vA 55] V (pI (fun x9 V' => x9 = (nSub q : Int) ∧ V' = up V 55 0 0)) := by
  refine Ok.intro (by decide +kernel) (Nat.le_of_ble_eq_true rfl) (fun X G hX hG hR hoa hoV => ?_)
  show J X G 0 [vA 55, vU, vU] [] V
  have hq9 := hmg.1
  have hq6 := gO_le hq9
  have e9 : V 55 1 = gO q := hmg.2.1
  have hp9 : ((2 ^ gO q : Nat) : Int) = 2 ^ gO q := by push_cast; rfl
  have h64 := gO_64 hq9
  have hp1 : (0 : Int) < 2 ^ gO q := Int.pow_pos (by decide)
  have hp2 : 1 ≤ 2 ^ gO q := Nat.one_le_two_pow
  refine j_al0 hX dX12_subgroups_0 rfl ?_
  refine j_iconst hX dX12_subgroups_1 ⟨by decide, by decide⟩ ?_
  refine j_putI hX hG fp_X12_126 rfl (by decide) dX12_subgroups_2 ?_
  obtain ⟨U, hU⟩ : ∃ U, U = up V 55 0 0 := ⟨_, rfl⟩
  rw [← hU]
  have u0 : U 55 0 = 0 := by rw [hU]; exact up_s ..
  have uF : ∀ b, b ≠ 0 → U 55 b = V 55 b := fun b hb => by rw [hU]; exact up_n _ (fun q => hb q.2)
  have uC : ∀ a b, a ≠ 55 → U a b = V a b := fun a b ha => by rw [hU]; exact up_n _ (fun q => ha q.1)
  have mgU : MG U q := hmg.t uF uC
  have e8 : U 55 1 = gO q := (uF 1 (by decide)).trans e9
  refine j_iconst hX dX12_subgroups_5 ⟨by decide, by decide⟩ ?_
  refine j_is1 hX dX12_subgroups_6 rfl ?_
  refine j_iconst hX dX12_subgroups_7 ⟨by decide, by decide⟩ ?_
  refine j_is2 hX dX12_subgroups_8 rfl ?_
  have lp_9 : ∀ (f9 : Nat) (c : Int) (s : Nat), (1 ≤ s ∧ s ≤ 2 ^ gO q) → (c = cSq q s) → ((2 ^ gO q - s)) < f9 → J X G 9 [vA 55, vI c, vI (s : Int)] [] U := by
    intro f9
    induction f9 with
    | zero => intro c s _ _ hm; exact absurd hm (Nat.not_lt_zero _)
    | succ f9 ih_9 =>
      intro c s hs1 hc hm
      refine j_il2 hX dX12_subgroups_9 ?_
      refine j_iconst hX dX12_subgroups_10 ⟨by decide, by decide⟩ ?_
      refine j_al0 hX dX12_subgroups_11 rfl ?_
      refine j_getI hX hG fl_X12_136 (Or.inl rfl) (by decide) dX12_subgroups_12 ?_
      refine j_eqS (st' := [vI (gO q), vI 1, vI (s : Int)]) (by rw [e8]) ?_
      refine j_ishl hX dX12_subgroups_15 (by omega) (p2_30 (by omega)) ?_
      refine j_eqS (st' := [vI ((2 ^ gO q : Nat) : Int), vI (s : Int)]) (by rw [Int.one_mul, Int.toNat_natCast, hp9]) ?_
      refine j_icmp_ge (tgt := 42) hX dX12_subgroups_16 (by decide) (fun h_16 => ?_) (fun h_16 => ?_)
      · skip
        refine j_il1 hX dX12_subgroups_42 ?_
        exact j_retI hR dX12_subgroups_43 ⟨by rw [hc, ← cSq_end hq9, show s = 2 ^ gO q by omega], hU⟩
      · skip
        refine j_il1 hX dX12_subgroups_19 ?_
        refine j_al0 hX dX12_subgroups_20 rfl ?_
        refine j_il2 hX dX12_subgroups_21 ?_
        refine j_pVI1 (ci := 12) hX hG lk_X12_309 (ok_X12_generatedBy mgU (by omega)) (by decide) rfl (Nat.le_of_ble_eq_true rfl) (Nat.le_of_ble_eq_true rfl) (Nat.le_of_ble_eq_true rfl) rfl dX12_subgroups_22 ?_
        refine j_il2 hX dX12_subgroups_25 ?_
        refine j_icmp_ne (tgt := 33) hX dX12_subgroups_26 (by decide) (fun h_26 => ?_) (fun h_26 => ?_)
        · skip
          refine j_iconst hX dX12_subgroups_33 ⟨by decide, by decide⟩ ?_
          have cb := cSq_b q s
          refine j_iadd hX dX12_subgroups_34 (by omega) ?_
          refine j_is1 hX dX12_subgroups_35 rfl ?_
          refine j_inc2 hX dX12_subgroups_36 rfl (by omega) ?_
          refine j_goto (tgt := 9) hX dX12_subgroups_39 (by decide) ?_
          refine j_lc2 (x9 := ((s + 1 : Nat) : Int)) (by push_cast; rfl) ?_
          exact ih_9 _ _ (by omega) (by first | (rw [cSq_y hs1.1 (by omega), hc]; push_cast; rfl) | (rw [cSq_n (by omega), hc]; omega)) (by omega)
        · skip
          refine j_iconst hX dX12_subgroups_29 ⟨by decide, by decide⟩ ?_
          refine j_goto (tgt := 34) hX dX12_subgroups_30 (by decide) ?_
          have cb := cSq_b q s
          refine j_iadd hX dX12_subgroups_34 (by omega) ?_
          refine j_is1 hX dX12_subgroups_35 rfl ?_
          refine j_inc2 hX dX12_subgroups_36 rfl (by omega) ?_
          refine j_goto (tgt := 9) hX dX12_subgroups_39 (by decide) ?_
          refine j_lc2 (x9 := ((s + 1 : Nat) : Int)) (by push_cast; rfl) ?_
          exact ih_9 _ _ (by omega) (by first | (rw [cSq_y hs1.1 (by omega), hc]; push_cast; rfl) | (rw [cSq_n (by omega), hc]; omega)) (by omega)
  refine j_lc2 (x9 := ((1 : Nat) : Int)) rfl ?_
  exact lp_9 _ 0 1 ⟨by omega, by omega⟩ (cSq_1 q).symm (Nat.lt_succ_self _)
