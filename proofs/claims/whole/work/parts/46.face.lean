/-! small things of the face -/
theorem bnot_g {s : Int} {k : Nat} (hr : r32 s) (hk : k ≤ 6) : band 32 s (bxor 32 (2 ^ k - 1) (-1)) = 0 ↔ 0 ≤ s ∧ s < 2 ^ k := by
  have h1 : (1 : Int) ≤ 2 ^ k ∧ (2 : Int) ^ k ≤ 64 := ⟨Int.pow_pos (by decide), pw_mono (b := 2) (by decide) hk⟩
  have hm : ∀ i : Nat, i < 32 → bt 32 (2 ^ k - 1) i = decide (i < k) := fun i hi => by
    have e : ((2 : Int) ^ k - 1) = ((2 ^ k - 1 : Nat) : Int) := by
      have h1 : 1 ≤ 2 ^ k := Nat.one_le_two_pow
      have h2 : ((2 ^ k : Nat) : Int) = 2 ^ k := by push_cast; rfl
      rw [← h2]; omega
    rw [e, bt_nat hi, Nat.testBit_two_pow_sub_one]
  have hb : ∀ i : Nat, i < 32 → bt 32 (band 32 s (bxor 32 (2 ^ k - 1) (-1))) i = (bt 32 s i && !decide (i < k)) := fun i hi => by
    rw [bt_and, bt_xor, bt_m1 hi, Bool.xor_true, hm i hi]
  constructor
  · intro h
    have hz : ∀ i : Nat, i < 32 → k ≤ i → bt 32 s i = false := fun i hi hki => by
      have := hb i hi
      rw [h, bt_0, decide_eq_false (by omega)] at this
      simpa using this.symm
    have h0 : 0 ≤ s := nneg32 hr (hz 31 (by decide) (by omega))
    refine ⟨h0, ?_⟩
    have hs : s = ((s.toNat : Nat) : Int) := by omega
    have h2 : s.toNat < 2 ^ k := Nat.lt_pow_two_of_testBit _ fun i hi => by
      by_cases q : i < 32
      · have := hz i q hi
        rw [hs, bt_nat q] at this; exact this
      · refine Nat.testBit_lt_two_pow ?_
        have : s.toNat < 2 ^ 31 := by have := hr.2; omega
        exact Nat.lt_of_lt_of_le this (Nat.pow_le_pow_right (by decide) (by omega))
    have h3 : ((2 ^ k : Nat) : Int) = 2 ^ k := by push_cast; rfl
    omega
  · rintro ⟨h0, h2⟩
    refine ext32 (bv32 _) ⟨by decide, by decide⟩ fun i hi => ?_
    rw [hb i hi, bt_0]
    by_cases q : i < k
    · rw [decide_eq_true q]; simp
    · have : bt 32 s i = false := by
        rw [show s = ((s.toNat : Nat) : Int) by omega, bt_nat hi]
        refine Nat.testBit_lt_two_pow ?_
        have h3 : ((2 ^ k : Nat) : Int) = 2 ^ k := by push_cast; rfl
        have : s.toNat < 2 ^ k := by omega
        exact Nat.lt_of_lt_of_le this (Nat.pow_le_pow_right (by decide) (by omega))
      rw [this]; rfl
def apK (V W : VV) (A : Int → Int) (k : Int) : Prop := W 2 1 = V 2 1 + 4 * k ∧ (∀ j, 0 ≤ j → j < 4 * k → W 3 (V 2 1 + j) = byteF (A (j / 4)) (j % 4)) ∧ (∀ b, b < V 2 1 → W 3 b = V 3 b) ∧ ∀ a b, a ≠ 3 → ¬ (a = 2 ∧ b = 1) → W a b = V a b
theorem apK_0 (V : VV) (A : Int → Int) : apK V V A 0 := ⟨by omega, fun j _ _ => by omega, fun _ _ => rfl, fun _ _ _ _ => rfl⟩
theorem apK_S {V W Z : VV} {A : Int → Int} {k x : Int} (h : apK V W A k) (hk : 0 ≤ k) (hx : A k = x) (h1 : Z 2 1 = W 2 1 + 4) (h2 : ∀ j, 0 ≤ j → j < 4 → Z 3 (W 2 1 + j) = byteF x j) (h3 : ∀ b, b < W 2 1 ∨ W 2 1 + 4 ≤ b → Z 3 b = W 3 b) (h4 : ∀ a b, a ≠ 3 → ¬ (a = 2 ∧ b = 1) → Z a b = W a b) : apK V Z A (k + 1) := by
  obtain ⟨a, b, c, d⟩ := h
  refine ⟨by omega, fun j j0 j1 => ?_, fun b hb => by rw [h3 b (by omega)]; exact c b hb, fun p q hp hq => (h4 p q hp hq).trans (d p q hp hq)⟩
  by_cases q : j < 4 * k
  · rw [h3 _ (by omega)]; exact b j j0 q
  · have e := h2 (j - 4 * k) (by omega) (by omega)
    rw [show W 2 1 + (j - 4 * k) = V 2 1 + j by omega] at e
    rw [e, ← hx, show j / 4 = k by omega, show j % 4 = j - 4 * k by omega]
def a5 (a b c d e i : Int) : Int := if i = 0 then a else if i = 1 then b else if i = 2 then c else if i = 3 then d else e

def elF (q : Nat) (x w : Int) : Int := if w = 0 then gV q x else if w = 1 then (gOd q x.toNat : Int) else if w = 2 then stF (fun y => gM q x y == gM q y x) (gO q) else stG (fun y => gM q (gM q y x) (gV q y)) (gO q)
theorem RO.word2 {V : VV} {r a b c : Int} (h : RO V r) (ha : 0 ≤ a ∧ a < V r 3) (hb : 0 ≤ b ∧ b < V r 3) (hc : V r 4 = 2 ∨ 0 ≤ c ∧ c < V r 3) : (0 ≤ (if V r 4 = 2 then a * V r 3 + b else (a * V r 3 + b) * V r 3 + c) ∧ (if V r 4 = 2 then a * V r 3 + b else (a * V r 3 + b) * V r 3 + c) < V r 5) ∧ V r 5 ≤ 216 := by
  refine ⟨?_, h.b.2.2.2.2⟩
  by_cases e : V r 4 = 2
  · have := h.word ha hb ha
    rw [if_pos e] at this ⊢; exact this
  · exact h.word ha hb (hc.elim (fun q => absurd q e) id)
theorem nor1_lt {q a : Nat} (hq : 2 ≤ gO q ∧ gO q ≤ 6) (h : a < 2 ^ gO q) : a ||| 1 < 2 ^ gO q := Nat.or_lt_two_pow h (Nat.one_lt_two_pow (by omega))
set_option maxHeartbeats 4000000 in
theorem ok_X11_append {V : VV} {a b c d e : Int} (htb : TB V) : OkX yX11_append cX11_append 6 (some .int) 8 130 [vA 0, vI a, vI b, vI c, vI d, vI e] V (pI (fun x9 V' => x9 = V 2 1 + 20 ∧ V 2 1 ≤ 480 ∧ apK V V' (a5 a b c d e) 5)) (fun E V' => (E = exS ∧ (480 < V 2 1) ∧ V' = V)) := by
  refine OkX.intro (by decide +kernel) (Nat.le_of_ble_eq_true rfl) (fun X G hX hG hR hT hoa hoV => ?_)
  show J X G 0 [vA 0, vI a, vI b, vI c, vI d, vI e] [] V
  have hb9 := htb.1
  have hb8 := htb.2.1
  have k_0 := apK_0 V (a5 a b c d e)
  refine j_al0 hX dX11_append_0 rfl ?_
  refine j_getR (q := 1) hX hG fl_X11_10 rfl rfl (by decide) dX11_append_1 ?_
  refine j_getR (q := 2) hX hG fl_X11_108 rfl rfl (by decide) dX11_append_4 ?_
  refine j_getI hX hG fl_X11_112 (Or.inl rfl) (by decide) dX11_append_7 ?_
  refine j_bipush hX dX11_append_10 (by decide) ⟨by decide, by decide⟩ ?_
  refine j_iadd hX dX11_append_12 (by omega) ?_
  refine j_sipush hX dX11_append_13 (by decide) ⟨by decide, by decide⟩ ?_
  refine j_icmp_le (tgt := 29) hX dX11_append_16 (by decide) (fun h_16 => ?_) (fun h_16 => ?_)
  · skip
    refine j_al0 hX dX11_append_29 rfl ?_
    refine j_getR (q := 1) hX hG fl_X11_10 rfl rfl (by decide) dX11_append_30 ?_
    refine j_getR (q := 2) hX hG fl_X11_108 rfl rfl (by decide) dX11_append_33 ?_
    refine j_il1 hX dX11_append_36 ?_
    refine j_cVV1 (ci := 9) hX (gNC hG) lk_X11_125 (ok_X9_addFour (by omega)) (by decide) rfl (Nat.le_of_ble_eq_true rfl) (Nat.le_of_ble_eq_true rfl) (Nat.le_of_ble_eq_true rfl) rfl dX11_append_37 (fun V_37 h_37 => ?_)
    obtain ⟨x1, x2, x3, x4⟩ := h_37
    have k_1 := apK_S k_0 (by decide) rfl x1 x2 x3 x4
    clear x1 x2 x3 x4
    dsimp only [Int.reduceAdd] at k_1
    refine j_al0 hX dX11_append_40 rfl ?_
    refine j_getR (q := 1) hX hG fl_X11_10 rfl rfl (by decide) dX11_append_41 ?_
    refine j_getR (q := 2) hX hG fl_X11_108 rfl rfl (by decide) dX11_append_44 ?_
    refine j_il2 hX dX11_append_47 ?_
    refine j_cVV1 (ci := 9) hX (gNC hG) lk_X11_125 (ok_X9_addFour (by have := k_1.1; omega)) (by decide) rfl (Nat.le_of_ble_eq_true rfl) (Nat.le_of_ble_eq_true rfl) (Nat.le_of_ble_eq_true rfl) rfl dX11_append_48 (fun V_48 h_48 => ?_)
    obtain ⟨x1, x2, x3, x4⟩ := h_48
    have k_2 := apK_S k_1 (by decide) rfl x1 x2 x3 x4
    clear x1 x2 x3 x4
    dsimp only [Int.reduceAdd] at k_2
    refine j_al0 hX dX11_append_51 rfl ?_
    refine j_getR (q := 1) hX hG fl_X11_10 rfl rfl (by decide) dX11_append_52 ?_
    refine j_getR (q := 2) hX hG fl_X11_108 rfl rfl (by decide) dX11_append_55 ?_
    refine j_il3 hX dX11_append_58 ?_
    refine j_cVV1 (ci := 9) hX (gNC hG) lk_X11_125 (ok_X9_addFour (by have := k_2.1; omega)) (by decide) rfl (Nat.le_of_ble_eq_true rfl) (Nat.le_of_ble_eq_true rfl) (Nat.le_of_ble_eq_true rfl) rfl dX11_append_59 (fun V_59 h_59 => ?_)
    obtain ⟨x1, x2, x3, x4⟩ := h_59
    have k_3 := apK_S k_2 (by decide) rfl x1 x2 x3 x4
    clear x1 x2 x3 x4
    dsimp only [Int.reduceAdd] at k_3
    refine j_al0 hX dX11_append_62 rfl ?_
    refine j_getR (q := 1) hX hG fl_X11_10 rfl rfl (by decide) dX11_append_63 ?_
    refine j_getR (q := 2) hX hG fl_X11_108 rfl rfl (by decide) dX11_append_66 ?_
    refine j_il4 hX dX11_append_69 ?_
    refine j_cVV1 (ci := 9) hX (gNC hG) lk_X11_125 (ok_X9_addFour (by have := k_3.1; omega)) (by decide) rfl (Nat.le_of_ble_eq_true rfl) (Nat.le_of_ble_eq_true rfl) (Nat.le_of_ble_eq_true rfl) rfl dX11_append_71 (fun V_71 h_71 => ?_)
    obtain ⟨x1, x2, x3, x4⟩ := h_71
    have k_4 := apK_S k_3 (by decide) rfl x1 x2 x3 x4
    clear x1 x2 x3 x4
    dsimp only [Int.reduceAdd] at k_4
    refine j_al0 hX dX11_append_74 rfl ?_
    refine j_getR (q := 1) hX hG fl_X11_10 rfl rfl (by decide) dX11_append_75 ?_
    refine j_getR (q := 2) hX hG fl_X11_108 rfl rfl (by decide) dX11_append_78 ?_
    refine j_il5 hX dX11_append_81 ?_
    refine j_cVV1 (ci := 9) hX (gNC hG) lk_X11_125 (ok_X9_addFour (by have := k_4.1; omega)) (by decide) rfl (Nat.le_of_ble_eq_true rfl) (Nat.le_of_ble_eq_true rfl) (Nat.le_of_ble_eq_true rfl) rfl dX11_append_83 (fun V_83 h_83 => ?_)
    obtain ⟨x1, x2, x3, x4⟩ := h_83
    have k_5 := apK_S k_4 (by decide) rfl x1 x2 x3 x4
    clear x1 x2 x3 x4
    dsimp only [Int.reduceAdd] at k_5
    refine j_al0 hX dX11_append_86 rfl ?_
    refine j_getR (q := 1) hX hG fl_X11_10 rfl rfl (by decide) dX11_append_87 ?_
    refine j_getR (q := 2) hX hG fl_X11_108 rfl rfl (by decide) dX11_append_90 ?_
    refine j_getI hX hG fl_X11_112 (Or.inl rfl) (by decide) dX11_append_93 ?_
    exact j_retI hR dX11_append_96 ⟨by have := k_5.1; omega, by omega, k_5⟩
  · skip
    exact j_throw (text := "the text would be too long") hX hT th_118 (by decide +kernel) dX11_append_19 dX11_append_22 dX11_append_23 dX11_append_25 dX11_append_28 (by decide) (Nat.le_of_ble_eq_true rfl) rfl (by first | rfl | assumption | omega | exact ⟨rfl, rfl⟩ | exact ⟨rfl, by omega, rfl⟩)
set_option maxHeartbeats 4000000 in
theorem ok_X11_truncate {V : VV} {n : Int}  : OkX yX11_truncate cX11_truncate 2 (some .int) 8 130 [vA 0, vI n] V (pI (fun x9 V' => x9 = n ∧ (0 ≤ n ∧ n ≤ V 2 1) ∧ V' = up V 2 1 n)) (fun E V' => (E = exB ∧ (¬ (0 ≤ n ∧ n ≤ V 2 1)) ∧ V' = V)) := by
  refine OkX.intro (by decide +kernel) (Nat.le_of_ble_eq_true rfl) (fun X G hX hG hR hT hoa hoV => ?_)
  show J X G 0 [vA 0, vI n] [] V
  refine j_il1 hX dX11_truncate_0 ?_
  refine j_if_lt (tgt := 18) hX dX11_truncate_1 (by decide) (fun h_1 => ?_) (fun h_1 => ?_)
  · skip
    exact j_throw (text := "no such length") hX hT th_128 (by decide +kernel) dX11_truncate_18 dX11_truncate_21 dX11_truncate_22 dX11_truncate_24 dX11_truncate_27 (by decide) (Nat.le_of_ble_eq_true rfl) rfl (by first | rfl | assumption | omega | exact ⟨rfl, rfl⟩ | exact ⟨rfl, by omega, rfl⟩)
  · skip
    refine j_il1 hX dX11_truncate_4 ?_
    refine j_al0 hX dX11_truncate_5 rfl ?_
    refine j_getR (q := 1) hX hG fl_X11_10 rfl rfl (by decide) dX11_truncate_6 ?_
    refine j_getR (q := 2) hX hG fl_X11_108 rfl rfl (by decide) dX11_truncate_9 ?_
    refine j_getI hX hG fl_X11_112 (Or.inl rfl) (by decide) dX11_truncate_12 ?_
    refine j_icmp_le (tgt := 28) hX dX11_truncate_15 (by decide) (fun h_15 => ?_) (fun h_15 => ?_)
    · skip
      refine j_al0 hX dX11_truncate_28 rfl ?_
      refine j_getR (q := 1) hX hG fl_X11_10 rfl rfl (by decide) dX11_truncate_29 ?_
      refine j_getR (q := 2) hX hG fl_X11_108 rfl rfl (by decide) dX11_truncate_32 ?_
      refine j_il1 hX dX11_truncate_35 ?_
      refine j_putI hX hG fp_X11_112 rfl (by decide) dX11_truncate_36 ?_
      refine j_il1 hX dX11_truncate_39 ?_
      exact j_retI hR dX11_truncate_40 ⟨rfl, by omega, rfl⟩
    · skip
      exact j_throw (text := "no such length") hX hT th_128 (by decide +kernel) dX11_truncate_18 dX11_truncate_21 dX11_truncate_22 dX11_truncate_24 dX11_truncate_27 (by decide) (Nat.le_of_ble_eq_true rfl) rfl (by first | rfl | assumption | omega | exact ⟨rfl, rfl⟩ | exact ⟨rfl, by omega, rfl⟩)
set_option maxHeartbeats 4000000 in
theorem ok_X11_errorCode {V : VV}  : Ok NC yX11_errorCode cX11_errorCode 1 (some .int) 0 0 [vA 0] V (pI (fun x9 V' => x9 = V 1 5 ∧ V' = V)) := by
  refine Ok.intro (by decide +kernel) (Nat.le_of_ble_eq_true rfl) (fun X G hX hG hR hoa hoV => ?_)
  show J X G 0 [vA 0] [] V
  refine j_al0 hX dX11_errorCode_0 rfl ?_
  refine j_getR (q := 1) hX hG fl_X11_10 rfl rfl (by decide) dX11_errorCode_1 ?_
  refine j_getI hX hG fl_X11_165 (Or.inl rfl) (by decide) dX11_errorCode_4 ?_
  exact j_retI hR dX11_errorCode_7 ⟨by first | rfl | omega | (exfalso; omega), rfl⟩
set_option maxHeartbeats 4000000 in
theorem ok_X11_errorPosition {V : VV}  : Ok NC yX11_errorPosition cX11_errorPosition 1 (some .int) 0 0 [vA 0] V (pI (fun x9 V' => x9 = V 1 6 ∧ V' = V)) := by
  refine Ok.intro (by decide +kernel) (Nat.le_of_ble_eq_true rfl) (fun X G hX hG hR hoa hoV => ?_)
  show J X G 0 [vA 0] [] V
  refine j_al0 hX dX11_errorPosition_0 rfl ?_
  refine j_getR (q := 1) hX hG fl_X11_10 rfl rfl (by decide) dX11_errorPosition_1 ?_
  refine j_getI hX hG fl_X11_168 (Or.inl rfl) (by decide) dX11_errorPosition_4 ?_
  exact j_retI hR dX11_errorPosition_7 ⟨by first | rfl | omega | (exfalso; omega), rfl⟩
set_option maxHeartbeats 4000000 in
theorem ok_X11_order {V : VV}  : Ok NC yX11_order cX11_order 1 (some .int) 0 0 [vA 0] V (pI (fun x9 V' => x9 = V 13 1 ∧ V' = V)) := by
  refine Ok.intro (by decide +kernel) (Nat.le_of_ble_eq_true rfl) (fun X G hX hG hR hoa hoV => ?_)
  show J X G 0 [vA 0] [] V
  refine j_al0 hX dX11_order_0 rfl ?_
  refine j_getR (q := 13) hX hG fl_X11_19 rfl rfl (by decide) dX11_order_1 ?_
  refine j_getI hX hG fl_X11_171 (Or.inl rfl) (by decide) dX11_order_4 ?_
  exact j_retI hR dX11_order_7 ⟨by first | rfl | omega | (exfalso; omega), rfl⟩
set_option maxHeartbeats 4000000 in
theorem ok_X11_product {V : VV} {x y : Int} {q : Nat} (hgp : GP V 13 q) : OkX yX11_product cX11_product 3 (some .int) 8 130 [vA 0, vI x, vI y] V (pI (fun x9 V' => x9 = gM q x y ∧ ((0 ≤ x ∧ x < V 13 1) ∧ 0 ≤ y ∧ y < V 13 1) ∧ V' = V)) (fun E V' => (E = exB ∧ (¬ ((0 ≤ x ∧ x < V 13 1) ∧ 0 ≤ y ∧ y < V 13 1)) ∧ V' = V)) := by
  refine OkX.intro (by decide +kernel) (Nat.le_of_ble_eq_true rfl) (fun X G hX hG hR hT hoa hoV => ?_)
  show J X G 0 [vA 0, vI x, vI y] [] V
  have hq9 := hgp.1
  have hq6 := gO_le hq9
  have hg1 := hgp.2.1
  refine j_al0 hX dX11_product_0 rfl ?_
  refine j_getR (q := 13) hX hG fl_X11_19 rfl rfl (by decide) dX11_product_1 ?_
  refine j_il1 hX dX11_product_4 ?_
  refine j_pVI1 (ci := 2) hX (gNC hG) lk_X11_174 (ok_X2_has (by first | assumption | omega | decide)) (by decide) rfl (Nat.le_of_ble_eq_true rfl) (Nat.le_of_ble_eq_true rfl) (Nat.le_of_ble_eq_true rfl) rfl dX11_product_5 ?_
  try dsimp only [Int.reduceAdd]
  refine j_ifz_eq (tgt := 22) hX dX11_product_8 (by decide) (fun h_8 => ?_) (fun h_8 => ?_)
  · skip
    exact j_throw (text := "no such element") hX hT th_128 (by decide +kernel) dX11_product_22 dX11_product_25 dX11_product_26 dX11_product_28 dX11_product_31 (by decide) (Nat.le_of_ble_eq_true rfl) rfl (by first | rfl | assumption | omega | exact ⟨rfl, rfl⟩ | exact ⟨rfl, by omega, rfl⟩)
  · skip
    refine j_al0 hX dX11_product_11 rfl ?_
    refine j_getR (q := 13) hX hG fl_X11_19 rfl rfl (by decide) dX11_product_12 ?_
    refine j_il2 hX dX11_product_15 ?_
    refine j_pVI1 (ci := 2) hX (gNC hG) lk_X11_174 (ok_X2_has (by first | assumption | omega | decide)) (by decide) rfl (Nat.le_of_ble_eq_true rfl) (Nat.le_of_ble_eq_true rfl) (Nat.le_of_ble_eq_true rfl) rfl dX11_product_16 ?_
    try dsimp only [Int.reduceAdd]
    refine j_ifz_ne (tgt := 32) hX dX11_product_19 (by decide) (fun h_19 => ?_) (fun h_19 => ?_)
    · skip
      refine j_al0 hX dX11_product_32 rfl ?_
      refine j_getR (q := 13) hX hG fl_X11_19 rfl rfl (by decide) dX11_product_33 ?_
      refine j_il1 hX dX11_product_36 ?_
      refine j_il2 hX dX11_product_37 ?_
      refine j_pVI2 (ci := 2) hX (gNC hG) lk_X11_180 (ok_X2_times (Or.inr rfl) (by first | assumption | omega | decide) (by omega) (by omega)) (by decide) rfl (Nat.le_of_ble_eq_true rfl) (Nat.le_of_ble_eq_true rfl) (Nat.le_of_ble_eq_true rfl) rfl dX11_product_38 ?_
      try dsimp only [Int.reduceAdd]
      exact j_retI hR dX11_product_41 ⟨rfl, by omega, rfl⟩
    · skip
      exact j_throw (text := "no such element") hX hT th_128 (by decide +kernel) dX11_product_22 dX11_product_25 dX11_product_26 dX11_product_28 dX11_product_31 (by decide) (Nat.le_of_ble_eq_true rfl) rfl (by first | rfl | assumption | omega | exact ⟨rfl, rfl⟩ | exact ⟨rfl, by omega, rfl⟩)
set_option maxHeartbeats 4000000 in
theorem ok_X11_element {V : VV} {x w : Int} {q : Nat} (hgp : GP V 13 q) : OkX yX11_element cX11_element 3 (some .int) 8 130 [vA 0, vI x, vI w] V (pI (fun x9 V' => x9 = elF q x w ∧ ((0 ≤ x ∧ x < V 13 1) ∧ 0 ≤ w ∧ w ≤ 3) ∧ V' = V)) (fun E V' => (E = exB ∧ (¬ (0 ≤ x ∧ x < V 13 1)) ∧ V' = V) ∨ (E = exA ∧ ((0 ≤ x ∧ x < V 13 1) ∧ ¬ (0 ≤ w ∧ w ≤ 3)) ∧ V' = V)) := by
  refine OkX.intro (by decide +kernel) (Nat.le_of_ble_eq_true rfl) (fun X G hX hG hR hT hoa hoV => ?_)
  show J X G 0 [vA 0, vI x, vI w] [] V
  have hq9 := hgp.1
  have hq6 := gO_le hq9
  have hg1 := hgp.2.1
  refine j_al0 hX dX11_element_0 rfl ?_
  refine j_getR (q := 13) hX hG fl_X11_19 rfl rfl (by decide) dX11_element_1 ?_
  refine j_il1 hX dX11_element_4 ?_
  refine j_pVI1 (ci := 2) hX (gNC hG) lk_X11_174 (ok_X2_has (by first | assumption | omega | decide)) (by decide) rfl (Nat.le_of_ble_eq_true rfl) (Nat.le_of_ble_eq_true rfl) (Nat.le_of_ble_eq_true rfl) rfl dX11_element_5 ?_
  try dsimp only [Int.reduceAdd]
  refine j_ifz_ne (tgt := 21) hX dX11_element_8 (by decide) (fun h_8 => ?_) (fun h_8 => ?_)
  · skip
    refine j_il2 hX dX11_element_21 ?_
    by_cases sw_22 : 0 ≤ w ∧ w ≤ 3
    · skip
      have sx_22 : w = 0 ∨ w = 1 ∨ w = 2 ∨ w = 3 := by omega
      rcases sx_22 with sv_22 | sv_22 | sv_22 | sv_22
      · skip
        refine j_tabIn (tgt := 52) hX dX11_element_22 sw_22 (by rw [sv_22]; rfl) (by decide) ?_
        refine j_al0 hX dX11_element_52 rfl ?_
        refine j_getR (q := 13) hX hG fl_X11_19 rfl rfl (by decide) dX11_element_53 ?_
        refine j_il1 hX dX11_element_56 ?_
        refine j_pVI1 (ci := 2) hX (gNC hG) lk_X11_184 (ok_X2_minus (Or.inr rfl) (by first | assumption | omega | decide) (by omega)) (by decide) rfl (Nat.le_of_ble_eq_true rfl) (Nat.le_of_ble_eq_true rfl) (Nat.le_of_ble_eq_true rfl) rfl dX11_element_57 ?_
        try dsimp only [Int.reduceAdd]
        exact j_retI hR dX11_element_60 ⟨by rw [sv_22]; rfl, by omega, rfl⟩
      · skip
        refine j_tabIn (tgt := 61) hX dX11_element_22 sw_22 (by rw [sv_22]; rfl) (by decide) ?_
        refine j_al0 hX dX11_element_61 rfl ?_
        refine j_getR (q := 13) hX hG fl_X11_19 rfl rfl (by decide) dX11_element_62 ?_
        refine j_il1 hX dX11_element_65 ?_
        refine j_pVI1 (ci := 2) hX (gNC hG) lk_X11_188 (ok_X2_orderOf (Or.inr rfl) (by first | assumption | omega | decide) (by omega)) (by decide) rfl (Nat.le_of_ble_eq_true rfl) (Nat.le_of_ble_eq_true rfl) (Nat.le_of_ble_eq_true rfl) rfl dX11_element_66 ?_
        try dsimp only [Int.reduceAdd]
        exact j_retI hR dX11_element_69 ⟨by rw [sv_22]; rfl, by omega, rfl⟩
      · skip
        refine j_tabIn (tgt := 70) hX dX11_element_22 sw_22 (by rw [sv_22]; rfl) (by decide) ?_
        refine j_al0 hX dX11_element_70 rfl ?_
        refine j_getR (q := 13) hX hG fl_X11_19 rfl rfl (by decide) dX11_element_71 ?_
        refine j_il1 hX dX11_element_74 ?_
        refine j_pVI1 (ci := 2) hX (gNC hG) lk_X11_191 (ok_X2_commuting (Or.inr rfl) (by first | assumption | omega | decide) (by omega)) (by decide) rfl (Nat.le_of_ble_eq_true rfl) (Nat.le_of_ble_eq_true rfl) (Nat.le_of_ble_eq_true rfl) rfl dX11_element_75 ?_
        try dsimp only [Int.reduceAdd]
        exact j_retI hR dX11_element_78 ⟨by rw [sv_22]; rfl, by omega, rfl⟩
      · skip
        refine j_tabIn (tgt := 79) hX dX11_element_22 sw_22 (by rw [sv_22]; rfl) (by decide) ?_
        refine j_al0 hX dX11_element_79 rfl ?_
        refine j_getR (q := 13) hX hG fl_X11_19 rfl rfl (by decide) dX11_element_80 ?_
        refine j_il1 hX dX11_element_83 ?_
        refine j_pVI1 (ci := 2) hX (gNC hG) lk_X11_194 (ok_X2_conjugates (Or.inr rfl) (by first | assumption | omega | decide) (by omega)) (by decide) rfl (Nat.le_of_ble_eq_true rfl) (Nat.le_of_ble_eq_true rfl) (Nat.le_of_ble_eq_true rfl) rfl dX11_element_84 ?_
        try dsimp only [Int.reduceAdd]
        exact j_retI hR dX11_element_87 ⟨by rw [sv_22]; rfl, by omega, rfl⟩
    · skip
      refine j_tabOut (tgt := 88) hX dX11_element_22 (by omega) (by decide) ?_
      exact j_throw (text := "what is out of range") hX hT th_137 (by decide +kernel) dX11_element_88 dX11_element_91 dX11_element_92 dX11_element_94 dX11_element_97 (by decide) (Nat.le_of_ble_eq_true rfl) rfl (Or.inr (⟨rfl, (by omega), rfl⟩))
  · skip
    exact j_throw (text := "no such element") hX hT th_128 (by decide +kernel) dX11_element_11 dX11_element_14 dX11_element_15 dX11_element_17 dX11_element_20 (by decide) (Nat.le_of_ble_eq_true rfl) rfl (Or.inl ⟨rfl, (by omega), rfl⟩)
set_option maxHeartbeats 4000000 in
theorem ok_X11_generated {V : VV} {s : Int} {q : Nat} (hgp : GP V 13 q) : OkX yX11_generated cX11_generated 2 (some .int) 8 130 [vA 0, vI s] V (pI (fun x9 V' => x9 = (nSp q s.toNat : Int) ∧ (0 ≤ s ∧ s < 2 ^ gO q) ∧ V' = V)) (fun E V' => (E = exA ∧ (¬ (0 ≤ s ∧ s < 2 ^ gO q)) ∧ V' = V)) := by
  refine OkX.intro (by decide +kernel) (Nat.le_of_ble_eq_true rfl) (fun X G hX hG hR hT hoa hoV => ?_)
  show J X G 0 [vA 0, vI s] [] V
  have hq9 := hgp.1
  have hq6 := gO_le hq9
  have hg1 := hgp.2.1
  have hrs : r32 s := okIr (hoa _ (List.mem_cons_of_mem _ List.mem_cons_self))
  have hbn := bnot_g (s := s) (k := gO q) hrs hq6.2
  refine j_il1 hX dX11_generated_0 ?_
  refine j_al0 hX dX11_generated_1 rfl ?_
  refine j_getR (q := 13) hX hG fl_X11_19 rfl rfl (by decide) dX11_generated_2 ?_
  refine j_pVI0 (ci := 2) hX (gNC hG) lk_X11_199 (ok_X2_all (Or.inr rfl) (by first | assumption | omega | decide)) (by decide) rfl (Nat.le_of_ble_eq_true rfl) (Nat.le_of_ble_eq_true rfl) (Nat.le_of_ble_eq_true rfl) rfl dX11_generated_5 ?_
  try dsimp only [Int.reduceAdd]
  refine j_iconst hX dX11_generated_8 ⟨by decide, by decide⟩ ?_
  refine j_ixor hX dX11_generated_9 ?_
  refine j_iand hX dX11_generated_10 ?_
  refine j_if_eq (tgt := 24) hX dX11_generated_11 (by decide) (fun h_11 => ?_) (fun h_11 => ?_)
  · skip
    refine j_al0 hX dX11_generated_24 rfl ?_
    refine j_getR (q := 13) hX hG fl_X11_19 rfl rfl (by decide) dX11_generated_25 ?_
    refine j_il1 hX dX11_generated_28 ?_
    have hs9 := hbn.mp h_11
    have hp9 : ((2 ^ gO q : Nat) : Int) = 2 ^ gO q := by push_cast; rfl
    refine j_eqS (st' := [vI ((s.toNat : Nat) : Int), vA 13]) (by rw [show ((s.toNat : Nat) : Int) = s by omega]) ?_
    refine j_pVI1 (ci := 2) hX (gNC hG) lk_X11_205 (ok_X2_span (Or.inr rfl) (by first | assumption | omega | decide) (by omega)) (by decide) rfl (Nat.le_of_ble_eq_true rfl) (Nat.le_of_ble_eq_true rfl) (Nat.le_of_ble_eq_true rfl) rfl dX11_generated_29 ?_
    try dsimp only [Int.reduceAdd]
    exact j_retI hR dX11_generated_32 ⟨rfl, hs9, rfl⟩
  · skip
    exact j_throw (text := "the set contains something that is no element") hX hT th_137 (by decide +kernel) dX11_generated_14 dX11_generated_17 dX11_generated_18 dX11_generated_20 dX11_generated_23 (by decide) (Nat.le_of_ble_eq_true rfl) rfl ⟨rfl, fun z => h_11 (hbn.mpr z), rfl⟩
set_option maxHeartbeats 4000000 in
theorem ok_X11_subgroups {V : VV} {q : Nat} (hgp : GP V 13 q) : Ok NC yX11_subgroups cX11_subgroups 1 (some .int) 4 89 [vA 0] V (pI (fun x9 V' => x9 = (nSub q : Int) ∧ V' = V)) := by
  refine Ok.intro (by decide +kernel) (Nat.le_of_ble_eq_true rfl) (fun X G hX hG hR hoa hoV => ?_)
  show J X G 0 [vA 0] [] V
  refine j_al0 hX dX11_subgroups_0 rfl ?_
  refine j_getR (q := 13) hX hG fl_X11_19 rfl rfl (by decide) dX11_subgroups_1 ?_
  refine j_pVI0 (ci := 2) hX hG lk_X11_208 (ok_X2_countSubgroups (Or.inr rfl) (by first | assumption | omega | decide)) (by decide) rfl (Nat.le_of_ble_eq_true rfl) (Nat.le_of_ble_eq_true rfl) (Nat.le_of_ble_eq_true rfl) rfl dX11_subgroups_4 ?_
  try dsimp only [Int.reduceAdd]
  exact j_retI hR dX11_subgroups_7 ⟨by first | rfl | omega | (exfalso; omega), rfl⟩
set_option maxHeartbeats 4000000 in
theorem ok_X11_rule {V : VV} {a b c : Int} (ho9 : RO V 15) : OkX yX11_rule cX11_rule 4 (some .int) 8 130 [vA 0, vI a, vI b, vI c] V (pI (fun x9 V' => x9 = V 16 (if V 15 4 = 2 then a * V 15 3 + b else (a * V 15 3 + b) * V 15 3 + c) ∧ ((0 ≤ a ∧ a < V 15 3) ∧ (0 ≤ b ∧ b < V 15 3) ∧ (V 15 4 = 2 ∨ 0 ≤ c ∧ c < V 15 3)) ∧ V' = V)) (fun E V' => (E = exB ∧ (¬ ((0 ≤ a ∧ a < V 15 3) ∧ (0 ≤ b ∧ b < V 15 3) ∧ (V 15 4 = 2 ∨ 0 ≤ c ∧ c < V 15 3))) ∧ V' = V)) := by
  refine OkX.intro (by decide +kernel) (Nat.le_of_ble_eq_true rfl) (fun X G hX hG hR hT hoa hoV => ?_)
  show J X G 0 [vA 0, vI a, vI b, vI c] [] V
  have hb9 := ho9.b
  refine j_al0 hX dX11_rule_0 rfl ?_
  refine j_getR (q := 15) hX hG fl_X11_26 rfl rfl (by decide) dX11_rule_1 ?_
  refine j_il1 hX dX11_rule_4 ?_
  refine j_il2 hX dX11_rule_5 ?_
  refine j_il3 hX dX11_rule_6 ?_
  refine j_pVI3 (ci := 8) hX (gNC hG) lk_X11_211 (ok_X8_hasWord (Or.inr (Or.inl rfl))) (by decide) rfl (Nat.le_of_ble_eq_true rfl) (Nat.le_of_ble_eq_true rfl) (Nat.le_of_ble_eq_true rfl) rfl dX11_rule_7 ?_
  try dsimp only [Int.reduceAdd]
  refine j_ifz_ne (tgt := 23) hX dX11_rule_10 (by decide) (fun h_10 => ?_) (fun h_10 => ?_)
  · skip
    have hw9 : (0 ≤ a ∧ a < V 15 3) ∧ (0 ≤ b ∧ b < V 15 3) ∧ (V 15 4 = 2 ∨ 0 ≤ c ∧ c < V 15 3) := h_10
    have hwd := RO.word2 ho9 hw9.1 hw9.2.1 hw9.2.2
    refine j_al0 hX dX11_rule_23 rfl ?_
    refine j_getR (q := 15) hX hG fl_X11_26 rfl rfl (by decide) dX11_rule_24 ?_
    refine j_al0 hX dX11_rule_27 rfl ?_
    refine j_getR (q := 15) hX hG fl_X11_26 rfl rfl (by decide) dX11_rule_28 ?_
    refine j_il1 hX dX11_rule_31 ?_
    refine j_il2 hX dX11_rule_32 ?_
    refine j_il3 hX dX11_rule_33 ?_
    refine j_pVI3 (ci := 8) hX (gNC hG) lk_X11_217 (ok_X8_wordOf (Or.inr (Or.inl rfl)) (by first | assumption | omega | decide) hw9.1 hw9.2.1 hw9.2.2) (by decide) rfl (Nat.le_of_ble_eq_true rfl) (Nat.le_of_ble_eq_true rfl) (Nat.le_of_ble_eq_true rfl) rfl dX11_rule_34 ?_
    try dsimp only [Int.reduceAdd]
    refine j_pVI1 (ci := 8) hX (gNC hG) lk_X11_221 (ok_X8_gives (Or.inr (Or.inl rfl)) (by omega)) (by decide) rfl (Nat.le_of_ble_eq_true rfl) (Nat.le_of_ble_eq_true rfl) (Nat.le_of_ble_eq_true rfl) rfl dX11_rule_37 ?_
    try dsimp only [Int.reduceAdd]
    exact j_retI hR dX11_rule_40 ⟨rfl, hw9, rfl⟩
  · skip
    exact j_throw (text := "no such state") hX hT th_128 (by decide +kernel) dX11_rule_13 dX11_rule_16 dX11_rule_17 dX11_rule_19 dX11_rule_22 (by decide) (Nat.le_of_ble_eq_true rfl) rfl ⟨rfl, h_10, rfl⟩
set_option maxHeartbeats 4000000 in
theorem ok_X11_width {V : VV}  : Ok NC yX11_width cX11_width 1 (some .int) 0 0 [vA 0] V (pI (fun x9 V' => x9 = V 15 4 ∧ V' = V)) := by
  refine Ok.intro (by decide +kernel) (Nat.le_of_ble_eq_true rfl) (fun X G hX hG hR hoa hoV => ?_)
  show J X G 0 [vA 0] [] V
  refine j_al0 hX dX11_width_0 rfl ?_
  refine j_getR (q := 15) hX hG fl_X11_26 rfl rfl (by decide) dX11_width_1 ?_
  refine j_getI hX hG fl_X11_224 (Or.inl rfl) (by decide) dX11_width_4 ?_
  exact j_retI hR dX11_width_7 ⟨by first | rfl | omega | (exfalso; omega), rfl⟩
set_option maxHeartbeats 4000000 in
theorem ok_X11_words {V : VV} {s : Int} (ho9 : RO V 15) : OkX yX11_words cX11_words 2 (some .int) 8 130 [vA 0, vI s] V (pI (fun x9 V' => x9 = cntI (fun e => V 16 e == s) (V 15 5).toNat ∧ (0 ≤ s ∧ s < V 13 1) ∧ V' = V)) (fun E V' => (E = exB ∧ (¬ (0 ≤ s ∧ s < V 13 1)) ∧ V' = V)) := by
  refine OkX.intro (by decide +kernel) (Nat.le_of_ble_eq_true rfl) (fun X G hX hG hR hT hoa hoV => ?_)
  show J X G 0 [vA 0, vI s] [] V
  refine j_al0 hX dX11_words_0 rfl ?_
  refine j_getR (q := 13) hX hG fl_X11_19 rfl rfl (by decide) dX11_words_1 ?_
  refine j_il1 hX dX11_words_4 ?_
  refine j_pVI1 (ci := 2) hX (gNC hG) lk_X11_174 (ok_X2_has (by first | assumption | omega | decide)) (by decide) rfl (Nat.le_of_ble_eq_true rfl) (Nat.le_of_ble_eq_true rfl) (Nat.le_of_ble_eq_true rfl) rfl dX11_words_5 ?_
  try dsimp only [Int.reduceAdd]
  refine j_ifz_ne (tgt := 21) hX dX11_words_8 (by decide) (fun h_8 => ?_) (fun h_8 => ?_)
  · skip
    refine j_al0 hX dX11_words_21 rfl ?_
    refine j_getR (q := 15) hX hG fl_X11_26 rfl rfl (by decide) dX11_words_22 ?_
    refine j_il1 hX dX11_words_25 ?_
    refine j_pVI1 (ci := 8) hX (gNC hG) lk_X11_227 (ok_X8_countWords (by first | assumption | omega | decide)) (by decide) rfl (Nat.le_of_ble_eq_true rfl) (Nat.le_of_ble_eq_true rfl) (Nat.le_of_ble_eq_true rfl) rfl dX11_words_26 ?_
    exact j_retI hR dX11_words_29 ⟨rfl, h_8, rfl⟩
  · skip
    exact j_throw (text := "no such state") hX hT th_128 (by decide +kernel) dX11_words_11 dX11_words_14 dX11_words_15 dX11_words_17 dX11_words_20 (by decide) (Nat.le_of_ble_eq_true rfl) rfl ⟨rfl, h_8, rfl⟩
set_option maxHeartbeats 4000000 in
theorem ok_X11_isHomomorphism {V : VV} {q : Nat} (ho9 : RO V 15) (ht : TR V 15) (hgp : GP V 13 q) (h3 : V 15 3 = gO q) : Ok NC yX11_isHomomorphism cX11_isHomomorphism 1 (some .boolean) 5 117 [vA 0] V (pI (fun x9 V' => x9 = (if homB (V 16) q (V 15 3) (V 15 4) (V 15 5) = true then 1 else 0) ∧ V' = V)) := by
  refine Ok.intro (by decide +kernel) (Nat.le_of_ble_eq_true rfl) (fun X G hX hG hR hoa hoV => ?_)
  show J X G 0 [vA 0] [] V
  refine j_al0 hX dX11_isHomomorphism_0 rfl ?_
  refine j_getR (q := 15) hX hG fl_X11_26 rfl rfl (by decide) dX11_isHomomorphism_1 ?_
  refine j_al0 hX dX11_isHomomorphism_4 rfl ?_
  refine j_getR (q := 13) hX hG fl_X11_19 rfl rfl (by decide) dX11_isHomomorphism_5 ?_
  refine j_pVI1 (ci := 8) hX hG lk_X11_230 (ok_X8_isHomomorphic (by first | assumption | omega | decide) (by first | assumption | omega | decide) (by first | assumption | omega | decide) (by first | assumption | omega | decide)) (by decide) rfl (Nat.le_of_ble_eq_true rfl) (Nat.le_of_ble_eq_true rfl) (Nat.le_of_ble_eq_true rfl) rfl dX11_isHomomorphism_8 ?_
  exact j_retZ hR dX11_isHomomorphism_11 (by omega) ⟨by first | rfl | omega | (exfalso; omega), rfl⟩
set_option maxHeartbeats 4000000 in
theorem ok_X11_isPermutive {V : VV} {b : Int} (ho9 : RO V 15) (ht : TR V 15) : Ok NC yX11_isPermutive cX11_isPermutive 2 (some .boolean) 4 89 [vA 0, vI b] V (pI (fun x9 V' => x9 = (if perB (V 16) (V 15 3) (V 15 5) (V 15 4 - 1 - (if b = 0 then 0 else V 15 4 - 1)).toNat = true then 1 else 0) ∧ V' = V)) := by
  refine Ok.intro (by decide +kernel) (Nat.le_of_ble_eq_true rfl) (fun X G hX hG hR hoa hoV => ?_)
  show J X G 0 [vA 0, vI b] [] V
  have hb9 := ho9.b
  refine j_al0 hX dX11_isPermutive_0 rfl ?_
  refine j_getR (q := 15) hX hG fl_X11_26 rfl rfl (by decide) dX11_isPermutive_1 ?_
  refine j_il1 hX dX11_isPermutive_4 ?_
  refine j_if_eq (tgt := 20) hX dX11_isPermutive_5 (by decide) (fun h_5 => ?_) (fun h_5 => ?_)
  · skip
    refine j_iconst hX dX11_isPermutive_20 ⟨by decide, by decide⟩ ?_
    refine j_pVI1 (ci := 8) hX hG lk_X11_234 (ok_X8_isPermutiveAt (by first | assumption | omega | decide) (by first | assumption | omega | decide) (by omega)) (by decide) rfl (Nat.le_of_ble_eq_true rfl) (Nat.le_of_ble_eq_true rfl) (Nat.le_of_ble_eq_true rfl) rfl dX11_isPermutive_21 ?_
    exact j_retZ hR dX11_isPermutive_24 (by omega) ⟨by first | rw [if_pos h_5] | rw [if_neg h_5], rfl⟩
  · skip
    refine j_al0 hX dX11_isPermutive_8 rfl ?_
    refine j_getR (q := 15) hX hG fl_X11_26 rfl rfl (by decide) dX11_isPermutive_9 ?_
    refine j_getI hX hG fl_X11_224 (Or.inl rfl) (by decide) dX11_isPermutive_12 ?_
    refine j_iconst hX dX11_isPermutive_15 ⟨by decide, by decide⟩ ?_
    refine j_isub hX dX11_isPermutive_16 (by omega) ?_
    refine j_goto (tgt := 21) hX dX11_isPermutive_17 (by decide) ?_
    refine j_pVI1 (ci := 8) hX hG lk_X11_234 (ok_X8_isPermutiveAt (by first | assumption | omega | decide) (by first | assumption | omega | decide) (by omega)) (by decide) rfl (Nat.le_of_ble_eq_true rfl) (Nat.le_of_ble_eq_true rfl) (Nat.le_of_ble_eq_true rfl) rfl dX11_isPermutive_21 ?_
    exact j_retZ hR dX11_isPermutive_24 (by omega) ⟨by first | rw [if_pos h_5] | rw [if_neg h_5], rfl⟩
set_option maxHeartbeats 4000000 in
theorem ok_X11_closed {V : VV} {q : Nat} (ho9 : RO V 15) (ht : TR V 15) (hgp : GP V 13 q) (h3 : V 15 3 = gO q) : Ok NC yX11_closed cX11_closed 3 (some .int) 5 111 [vA 0] V (pI (fun x9 V' => x9 = stF (fun x => stayB (V 16) (nSp q (2 ^ x.toNat)) (V 15 3) (V 15 4) (V 15 5)) (gO q) ∧ V' = V)) := by
  refine Ok.intro (by decide +kernel) (Nat.le_of_ble_eq_true rfl) (fun X G hX hG hR hoa hoV => ?_)
  show J X G 0 [vA 0, vU, vU] [] V
  have hb9 := ho9.b
  have hq9 := hgp.1
  have hq6 := gO_le hq9
  have hg1 := hgp.2.1
  refine j_iconst hX dX11_closed_0 ⟨by decide, by decide⟩ ?_
  refine j_is1 hX dX11_closed_1 rfl ?_
  refine j_iconst hX dX11_closed_2 ⟨by decide, by decide⟩ ?_
  refine j_is2 hX dX11_closed_3 rfl ?_
  have lp_4 : ∀ (f9 : Nat) (x : Int), (0 ≤ x ∧ x ≤ gO q) → (((gO q : Int) - x).toNat) < f9 → J X G 4 [vA 0, vI (stF (fun x => stayB (V 16) (nSp q (2 ^ x.toNat)) (V 15 3) (V 15 4) (V 15 5)) x.toNat), vI x] [] V := by
    intro f9
    induction f9 with
    | zero => intro x _ hm; exact absurd hm (Nat.not_lt_zero _)
    | succ f9 ih_4 =>
      intro x hx hm
      refine j_il2 hX dX11_closed_4 ?_
      refine j_al0 hX dX11_closed_5 rfl ?_
      refine j_getR (q := 13) hX hG fl_X11_19 rfl rfl (by decide) dX11_closed_6 ?_
      refine j_getI hX hG fl_X11_171 (Or.inl rfl) (by decide) dX11_closed_9 ?_
      refine j_icmp_ge (tgt := 47) hX dX11_closed_12 (by decide) (fun h_12 => ?_) (fun h_12 => ?_)
      · skip
        refine j_il1 hX dX11_closed_47 ?_
        exact j_retI hR dX11_closed_48 ⟨by rw [show x = gO q by omega]; congr 1, rfl⟩
      · skip
        refine j_al0 hX dX11_closed_15 rfl ?_
        refine j_getR (q := 15) hX hG fl_X11_26 rfl rfl (by decide) dX11_closed_16 ?_
        refine j_al0 hX dX11_closed_19 rfl ?_
        refine j_getR (q := 13) hX hG fl_X11_19 rfl rfl (by decide) dX11_closed_20 ?_
        refine j_iconst hX dX11_closed_23 ⟨by decide, by decide⟩ ?_
        refine j_il2 hX dX11_closed_24 ?_
        refine j_ishl hX dX11_closed_25 (by omega) (p2_30 (by omega)) ?_
        have hxp : (2 : Nat) ^ x.toNat < 2 ^ gO q := Nat.pow_lt_pow_right (by decide) (by omega)
        have hsl := nIt_lt hq9 (s := 2 ^ x.toNat ||| 1) (by exact nor1_lt hq6 hxp) (gO q)
        have h64 := gO_64 hq9
        refine j_eqS (st' := [vI ((2 ^ x.toNat : Nat) : Int), vA 13, vA 15]) (by rw [Int.one_mul]; push_cast; rfl) ?_
        refine j_pVI1 (ci := 2) hX hG lk_X11_205 (ok_X2_span (Or.inr rfl) (by first | assumption | omega | decide) hxp) (by decide) rfl (Nat.le_of_ble_eq_true rfl) (Nat.le_of_ble_eq_true rfl) (Nat.le_of_ble_eq_true rfl) rfl dX11_closed_26 ?_
        try dsimp only [Int.reduceAdd]
        refine j_pVI1 (ci := 8) hX hG lk_X11_237 (ok_X8_staysWithin (by first | assumption | omega | decide) (by first | assumption | omega | decide) (Nat.lt_of_lt_of_le hsl h64)) (by decide) rfl (Nat.le_of_ble_eq_true rfl) (Nat.le_of_ble_eq_true rfl) (Nat.le_of_ble_eq_true rfl) rfl dX11_closed_29 ?_
        refine j_ifz_eq (tgt := 41) hX dX11_closed_32 (by decide) (fun h_32 => ?_) (fun h_32 => ?_)
        · skip
          refine j_inc2 hX dX11_closed_41 rfl (by omega) ?_
          refine j_goto (tgt := 4) hX dX11_closed_44 (by decide) ?_
          refine j_eqL (ls' := [vA 0, vI (stF (fun x => stayB (V 16) (nSp q (2 ^ x.toNat)) (V 15 3) (V 15 4) (V 15 5)) (x + 1).toNat), vI (x + 1)]) (by rw [stF_S hx.1]; first | rw [if_pos h_32] | rw [if_neg h_32]) ?_
          exact ih_4 _ (by omega) (by omega)
        · skip
          refine j_il1 hX dX11_closed_35 ?_
          refine j_iconst hX dX11_closed_36 ⟨by decide, by decide⟩ ?_
          refine j_il2 hX dX11_closed_37 ?_
          refine j_ishl hX dX11_closed_38 (by omega) (p2_30 (by omega)) ?_
          refine j_ior hX dX11_closed_39 ?_
          refine j_is1 hX dX11_closed_40 rfl ?_
          refine j_inc2 hX dX11_closed_41 rfl (by omega) ?_
          refine j_goto (tgt := 4) hX dX11_closed_44 (by decide) ?_
          refine j_eqL (ls' := [vA 0, vI (stF (fun x => stayB (V 16) (nSp q (2 ^ x.toNat)) (V 15 3) (V 15 4) (V 15 5)) (x + 1).toNat), vI (x + 1)]) (by rw [stF_S hx.1]; first | rw [if_pos h_32] | rw [if_neg h_32]) ?_
          exact ih_4 _ (by omega) (by omega)
  refine j_eqL (ls' := [vA 0, vI (stF (fun x => stayB (V 16) (nSp q (2 ^ x.toNat)) (V 15 3) (V 15 4) (V 15 5)) (0 : Int).toNat), vI 0]) rfl ?_
  exact lp_4 _ _ (by omega) (Nat.lt_succ_self _)
set_option maxHeartbeats 4000000 in
theorem ok_X11_size {V : VV}  : Ok NC yX11_size cX11_size 1 (some .int) 0 0 [vA 0] V (pI (fun x9 V' => x9 = V 23 1 ∧ V' = V)) := by
  refine Ok.intro (by decide +kernel) (Nat.le_of_ble_eq_true rfl) (fun X G hX hG hR hoa hoV => ?_)
  show J X G 0 [vA 0] [] V
  refine j_al0 hX dX11_size_0 rfl ?_
  refine j_getR (q := 23) hX hG fl_X11_36 rfl rfl (by decide) dX11_size_1 ?_
  refine j_getI hX hG fl_X11_161 (Or.inl rfl) (by decide) dX11_size_4 ?_
  exact j_retI hR dX11_size_7 ⟨by first | rfl | omega | (exfalso; omega), rfl⟩
set_option maxHeartbeats 4000000 in
theorem ok_X11_cell {V : VV} {k : Int} (hn : 1 ≤ V 23 1 ∧ V 23 1 ≤ 16) : OkX yX11_cell cX11_cell 2 (some .int) 8 130 [vA 0, vI k] V (pI (fun x9 V' => x9 = V 24 k ∧ (0 ≤ k ∧ k < V 23 1) ∧ V' = V)) (fun E V' => (E = exB ∧ (¬ (0 ≤ k ∧ k < V 23 1)) ∧ V' = V)) := by
  refine OkX.intro (by decide +kernel) (Nat.le_of_ble_eq_true rfl) (fun X G hX hG hR hT hoa hoV => ?_)
  show J X G 0 [vA 0, vI k] [] V
  refine j_al0 hX dX11_cell_0 rfl ?_
  refine j_getR (q := 23) hX hG fl_X11_36 rfl rfl (by decide) dX11_cell_1 ?_
  refine j_il1 hX dX11_cell_4 ?_
  refine j_pVI1 (ci := 7) hX (gNC hG) lk_X11_294 (ok_X7_has (by first | assumption | omega | decide)) (by decide) rfl (Nat.le_of_ble_eq_true rfl) (Nat.le_of_ble_eq_true rfl) (Nat.le_of_ble_eq_true rfl) rfl dX11_cell_5 ?_
  try dsimp only [Int.reduceAdd]
  refine j_ifz_ne (tgt := 22) hX dX11_cell_8 (by decide) (fun h_8 => ?_) (fun h_8 => ?_)
  · skip
    refine j_al0 hX dX11_cell_22 rfl ?_
    refine j_getR (q := 23) hX hG fl_X11_36 rfl rfl (by decide) dX11_cell_23 ?_
    refine j_il1 hX dX11_cell_26 ?_
    refine j_pVI1 (ci := 7) hX (gNC hG) lk_X11_297 (ok_X7_stateOf (by decide) (by omega)) (by decide) rfl (Nat.le_of_ble_eq_true rfl) (Nat.le_of_ble_eq_true rfl) (Nat.le_of_ble_eq_true rfl) rfl dX11_cell_27 ?_
    try dsimp only [Int.reduceAdd]
    exact j_retI hR dX11_cell_30 ⟨rfl, h_8, rfl⟩
  · skip
    exact j_throwW (text := "no such cell") hX hT th_128 (by decide +kernel) dX11_cell_11 dX11_cell_14 dX11_cell_15 dX11_cell_18 dX11_cell_21 (by decide) (Nat.le_of_ble_eq_true rfl) rfl ⟨rfl, h_8, rfl⟩
set_option maxHeartbeats 4000000 in
theorem ok_X11_total {V : VV} {q : Nat} (hgp : GP V 13 q) (h3 : V 15 3 = gO q) (hn : 1 ≤ V 23 1 ∧ V 23 1 ≤ 16) (hQ : ∀ k, 0 ≤ k → k < V 23 1 → 0 ≤ V 24 k ∧ V 24 k < V 15 3) : Ok NC yX11_total cX11_total 1 (some .int) 3 66 [vA 0] V (pI (fun x9 V' => x9 = prodF q (V 24) (V 23 1).toNat ∧ V' = V)) := by
  refine Ok.intro (by decide +kernel) (Nat.le_of_ble_eq_true rfl) (fun X G hX hG hR hoa hoV => ?_)
  show J X G 0 [vA 0] [] V
  refine j_al0 hX dX11_total_0 rfl ?_
  refine j_getR (q := 23) hX hG fl_X11_36 rfl rfl (by decide) dX11_total_1 ?_
  refine j_al0 hX dX11_total_4 rfl ?_
  refine j_getR (q := 13) hX hG fl_X11_19 rfl rfl (by decide) dX11_total_5 ?_
  refine j_pVI1 (ci := 7) hX hG lk_X11_300 (ok_X7_productOfAll (by decide) (Or.inr rfl) (by first | assumption | omega | decide) (by omega) (fun k h0 h1 => by rw [← h3]; exact hQ k h0 h1)) (by decide) rfl (Nat.le_of_ble_eq_true rfl) (Nat.le_of_ble_eq_true rfl) (Nat.le_of_ble_eq_true rfl) rfl dX11_total_8 ?_
  try dsimp only [Int.reduceAdd]
  exact j_retI hR dX11_total_11 ⟨by first | rfl | omega | (exfalso; omega), rfl⟩
set_option maxHeartbeats 4000000 in
theorem ok_X11_density {V : VV} (hn : 1 ≤ V 23 1 ∧ V 23 1 ≤ 16) : Ok NC yX11_density cX11_density 1 (some .double) 3 64 [vA 0] V (pD (fun x9 V' => x9 = 32 * cntI (fun k => V 24 k != 0) (V 23 1).toNat + V 23 1 ∧ V' = V)) := by
  refine Ok.intro (by decide +kernel) (Nat.le_of_ble_eq_true rfl) (fun X G hX hG hR hoa hoV => ?_)
  show J X G 0 [vA 0] [] V
  have hcb := cntI_b (fun k => V 24 k != 0) (V 23 1).toNat
  refine j_al0 hX dX11_density_0 rfl ?_
  refine j_getR (q := 23) hX hG fl_X11_36 rfl rfl (by decide) dX11_density_1 ?_
  refine j_getI hX hG fl_X11_161 (Or.inl rfl) (by decide) dX11_density_4 ?_
  refine j_if_ne (tgt := 12) hX dX11_density_7 (by decide) (fun h_7 => ?_) (fun h_7 => ?_)
  · skip
    refine j_al0 hX dX11_density_12 rfl ?_
    refine j_getR (q := 23) hX hG fl_X11_36 rfl rfl (by decide) dX11_density_13 ?_
    refine j_pVI0 (ci := 7) hX hG lk_X11_304 (ok_X7_countNotZero (by decide) (by omega)) (by decide) rfl (Nat.le_of_ble_eq_true rfl) (Nat.le_of_ble_eq_true rfl) (Nat.le_of_ble_eq_true rfl) rfl dX11_density_16 ?_
    try dsimp only [Int.reduceAdd]
    refine j_i2d hX dX11_density_19 (by omega) ?_
    refine j_al0 hX dX11_density_20 rfl ?_
    refine j_getR (q := 23) hX hG fl_X11_36 rfl rfl (by decide) dX11_density_21 ?_
    refine j_getI hX hG fl_X11_161 (Or.inl rfl) (by decide) dX11_density_24 ?_
    refine j_i2d hX dX11_density_27 (by omega) ?_
    refine j_ddiv hX dX11_density_28 (by omega) ?_
    exact j_retD hR dX11_density_29 ⟨rfl, rfl⟩
  · skip
    exfalso; omega
