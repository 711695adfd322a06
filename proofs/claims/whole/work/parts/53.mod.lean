/-- the model's rule, seen as a rule of the class -/
def mvw (V : VV) : VV := fun a b => if a = 16 then V 58 b else if b = 3 then V 55 1 else if b = 4 then V 55 2 else if b = 5 then V 55 3 else V 55 4
def MO (V : VV) : Prop := (2 ≤ V 55 1 ∧ V 55 1 ≤ 6) ∧ (V 55 2 = 2 ∧ V 55 4 = V 55 1 ∨ V 55 2 = 3 ∧ V 55 4 = V 55 1 * V 55 1) ∧ V 55 3 = V 55 4 * V 55 1
def TRM (V : VV) : Prop := ∀ e : Int, 0 ≤ e → e < V 55 3 → 0 ≤ V 58 e ∧ V 58 e < V 55 1
theorem MO.ro {V : VV} (h : MO V) : RO (mvw V) 15 := h
theorem MO.b {V : VV} (h : MO V) : (2 ≤ V 55 1 ∧ V 55 1 ≤ 6) ∧ (2 ≤ V 55 2 ∧ V 55 2 ≤ 3) ∧ (2 ≤ V 55 4 ∧ V 55 4 ≤ 36) ∧ (4 ≤ V 55 3 ∧ V 55 3 ≤ 216) := RO.b (V := mvw V) (r := 15) h
theorem MO.t {V U : VV} (h : MO V) (e : ∀ b, b ≠ 0 → U 55 b = V 55 b) : MO U := by
  unfold MO
  rw [e 1 (by decide), e 2 (by decide), e 3 (by decide), e 4 (by decide)]
  exact h
theorem TRM.t {V U : VV} (h : TRM V) (e : ∀ b, b ≠ 0 → U 55 b = V 55 b) (e' : ∀ a b, a ≠ 55 → U a b = V a b) : TRM U := fun z z0 z1 => by
  rw [e 3 (by decide)] at z1
  rw [e' 58 _ (by decide), e 1 (by decide)]
  exact h z z0 z1
theorem m66 {a b : Int} (B : Int) (ha : 0 ≤ a ∧ a ≤ 6) (hb : 0 ≤ b ∧ b ≤ B) : 0 ≤ a * b ∧ a * b ≤ 6 * B := ⟨Int.mul_nonneg ha.1 hb.1, Int.mul_le_mul ha.2 hb.2 hb.1 (by decide)⟩
theorem MO.w {V : VV} (h : MO V) {a b c : Int} (hc : (0 ≤ a ∧ a < V 55 1) ∧ (0 ≤ b ∧ b < V 55 1) ∧ (V 55 2 = 2 ∨ 0 ≤ c ∧ c < V 55 1)) : 0 ≤ (if V 55 2 = 2 then V 55 1 * a + b else V 55 1 * (V 55 1 * a + b) + c) ∧ (if V 55 2 = 2 then V 55 1 * a + b else V 55 1 * (V 55 1 * a + b) + c) < 216 := by
  have h1 := RO.word2 (V := mvw V) (r := 15) h hc.1 hc.2.1 hc.2.2
  have h2 := h.b
  have e : (if V 55 2 = 2 then V 55 1 * a + b else V 55 1 * (V 55 1 * a + b) + c) = (if V 55 2 = 2 then a * V 55 1 + b else (a * V 55 1 + b) * V 55 1 + c) := by
    rw [Int.mul_comm (V 55 1) a, Int.mul_comm (V 55 1) (a * V 55 1 + b)]
  rw [e]
  have h3 : 0 ≤ (if V 55 2 = 2 then a * V 55 1 + b else (a * V 55 1 + b) * V 55 1 + c) ∧ (if V 55 2 = 2 then a * V 55 1 + b else (a * V 55 1 + b) * V 55 1 + c) < V 55 3 := h1.1
  omega
theorem MO.dd {V : VV} (h : MO V) {e : Int} (he : 0 ≤ e ∧ e < V 55 3) : 0 ≤ e / V 55 1 ∧ 0 ≤ e / V 55 1 / V 55 1 ∧ (V 55 2 = 2 → e / V 55 1 < V 55 1) ∧ (V 55 2 ≠ 2 → e / V 55 1 / V 55 1 < V 55 1) := by
  have hb := h.b
  have h0 : 0 ≤ e / V 55 1 := Int.ediv_nonneg he.1 (by omega)
  refine ⟨h0, Int.ediv_nonneg h0 (by omega), fun q => ?_, fun q => ?_⟩
  · have h4 : V 55 4 = V 55 1 := by rcases h.2.1 with z | z <;> omega
    have h3 := h.2.2
    rw [h4] at h3
    exact Int.ediv_lt_of_lt_mul (by omega) (by omega)
  · have h4 : V 55 4 = V 55 1 * V 55 1 := by rcases h.2.1 with z | z <;> omega
    have h3 := h.2.2
    rw [h4] at h3
    exact Int.ediv_lt_of_lt_mul (by omega) (Int.ediv_lt_of_lt_mul (by omega) (by omega))
/-- the product of two words, state by state -/
def tWd (q : Nat) (g w d e : Int) : Int := if w = 2 then g * gM q (d / g % g) (e / g % g) + gM q (d % g) (e % g) else g * (g * gM q (d / g / g) (e / g / g) + gM q (d / g % g) (e / g % g)) + gM q (d % g) (e % g)
theorem tW_b {V : VV} {q : Nat} {d : Int} (h : MG V q) (ho : MO V) (hd : 0 ≤ d ∧ d < V 55 3) : (0 ≤ d % gO q ∧ d % gO q < gO q) ∧ (0 ≤ d / gO q % gO q ∧ d / gO q % gO q < gO q) ∧ (V 55 2 ≠ 2 → 0 ≤ d / gO q / gO q ∧ d / gO q / gO q < gO q) := by
  have h6 := gO_le h.1
  have hd2 := ho.dd hd
  rw [h.2.1] at hd2
  exact ⟨md_b _ (by omega), md_b _ (by omega), fun q => ⟨hd2.2.1, hd2.2.2.2 q⟩⟩
theorem dg_0 {g e : Int} : dg g e 0 = e % g := by unfold dg; rw [Int.pow_zero, Int.ediv_one]
theorem dg_1 {g e : Int} : dg g e 1 = e / g % g := by unfold dg; rw [show g ^ 1 = g by rw [Int.pow_succ, Int.pow_zero, Int.one_mul]]
theorem dg_2 {g e : Int} (hg : 0 ≤ g) : dg g e 2 = e / g / g % g := by
  unfold dg
  rw [show g ^ 2 = g * g by rw [Int.pow_succ, Int.pow_succ, Int.pow_zero, Int.one_mul], Int.ediv_ediv_of_nonneg hg]
theorem inW_of {V : VV} {s : Nat} {e : Int} (ho : MO V) (he : 0 ≤ e ∧ e < V 55 3) (h : (V 55 2 = 2 ∧ s.testBit (e % V 55 1).toNat = true ∧ s.testBit (e / V 55 1 % V 55 1).toNat = true) ∨ (V 55 2 ≠ 2 ∧ s.testBit (e % V 55 1).toNat = true ∧ s.testBit (e / V 55 1 % V 55 1).toNat = true ∧ s.testBit (e / V 55 1 / V 55 1).toNat = true)) : inWb s (V 55 1) (V 55 2) e = true := by
  have hb := ho.b
  have hd := ho.dd he
  refine inWb_t.mpr fun j hj => ?_
  rcases (by omega : j = 0 ∨ j = 1 ∨ (j = 2 ∧ V 55 2 ≠ 2)) with rfl | rfl | ⟨rfl, h2⟩
  · rw [dg_0]; rcases h with h | h
    · exact h.2.1
    · exact h.2.1
  · rw [dg_1]; rcases h with h | h
    · exact h.2.2
    · exact h.2.2.1
  · rw [dg_2 (by omega), Int.emod_eq_of_lt hd.2.1 (hd.2.2.2 h2)]
    rcases h with h | h
    · exact absurd h.1 h2
    · exact h.2.2.2
theorem inW_to {V : VV} {s : Nat} {e : Int} (ho : MO V) (he : 0 ≤ e ∧ e < V 55 3) (h : inWb s (V 55 1) (V 55 2) e = true) : s.testBit (e % V 55 1).toNat = true ∧ s.testBit (e / V 55 1 % V 55 1).toNat = true ∧ (V 55 2 ≠ 2 → s.testBit (e / V 55 1 / V 55 1).toNat = true) := by
  have hb := ho.b
  have hd := ho.dd he
  have h1 := inWb_t.mp h
  refine ⟨by rw [← dg_0]; exact h1 0 (by omega), by rw [← dg_1]; exact h1 1 (by omega), fun h2 => ?_⟩
  have := h1 2 (by omega)
  rw [dg_2 (by omega), Int.emod_eq_of_lt hd.2.1 (hd.2.2.2 h2)] at this
  exact this
theorem stay_t {T : Int → Int} {s : Nat} {g w n : Int} : stayB T s g w n = true ↔ ∀ e, 0 ≤ e → e < n → inWb s g w e = true → s.testBit (T e).toNat = true := by
  unfold stayB
  rw [allR (p := fun e => !inWb s g w e || s.testBit (T e).toNat)]
  constructor
  · intro h e h0 h1 h2
    have := h e h0 h1
    rw [h2] at this
    simpa using this
  · intro h e h0 h1
    cases q : inWb s g w e with
    | false => rfl
    | true => rw [h e h0 h1 q]; rfl
set_option maxHeartbeats 4000000 in
theorem ok_X12_isWordOf {V : VV} {a b c : Int} (h2 : 2 ≤ V 55 1 ∧ V 55 1 ≤ 6) : Ok NA yX12_isWordOf cX12_isWordOf 4 (some .boolean) 2 43 [vA 55, vI a, vI b, vI c] V (pI (fun x9 V' => x9 = (if (0 ≤ a ∧ a < V 55 1) ∧ (0 ≤ b ∧ b < V 55 1) ∧ (V 55 2 = 2 ∨ 0 ≤ c ∧ c < V 55 1) then 1 else 0) ∧ V' = V)) := by
  refine Ok.intro (by decide +kernel) (Nat.le_of_ble_eq_true rfl) (fun X G hX hG hR hoa hoV => ?_)
  show J X G 0 [vA 55, vI a, vI b, vI c] [] V
  refine j_al0 hX dX12_isWordOf_0 rfl ?_
  refine j_il1 hX dX12_isWordOf_1 ?_
  refine j_pVI1 (ci := 12) hX hG lk_X12_290 (ok_X12_isState h2) (by decide) rfl (Nat.le_of_ble_eq_true rfl) (Nat.le_of_ble_eq_true rfl) (Nat.le_of_ble_eq_true rfl) rfl dX12_isWordOf_2 ?_
  refine j_ifz_eq (tgt := 36) hX dX12_isWordOf_5 (by decide) (fun h_5 => ?_) (fun h_5 => ?_)
  · skip
    refine j_iconst hX dX12_isWordOf_36 ⟨by decide, by decide⟩ ?_
    exact j_retZ hR dX12_isWordOf_37 (by omega) ⟨by split <;> first | rfl | (exfalso; omega), rfl⟩
  · skip
    refine j_al0 hX dX12_isWordOf_8 rfl ?_
    refine j_il2 hX dX12_isWordOf_9 ?_
    refine j_pVI1 (ci := 12) hX hG lk_X12_290 (ok_X12_isState h2) (by decide) rfl (Nat.le_of_ble_eq_true rfl) (Nat.le_of_ble_eq_true rfl) (Nat.le_of_ble_eq_true rfl) rfl dX12_isWordOf_10 ?_
    refine j_ifz_eq (tgt := 36) hX dX12_isWordOf_13 (by decide) (fun h_13 => ?_) (fun h_13 => ?_)
    · skip
      refine j_iconst hX dX12_isWordOf_36 ⟨by decide, by decide⟩ ?_
      exact j_retZ hR dX12_isWordOf_37 (by omega) ⟨by split <;> first | rfl | (exfalso; omega), rfl⟩
    · skip
      refine j_al0 hX dX12_isWordOf_16 rfl ?_
      refine j_getI hX hG fl_X12_139 (Or.inl rfl) (by decide) dX12_isWordOf_17 ?_
      refine j_iconst hX dX12_isWordOf_20 ⟨by decide, by decide⟩ ?_
      refine j_icmp_eq (tgt := 32) hX dX12_isWordOf_21 (by decide) (fun h_21 => ?_) (fun h_21 => ?_)
      · skip
        refine j_iconst hX dX12_isWordOf_32 ⟨by decide, by decide⟩ ?_
        refine j_goto (tgt := 37) hX dX12_isWordOf_33 (by decide) ?_
        exact j_retZ hR dX12_isWordOf_37 (by omega) ⟨by split <;> first | rfl | (exfalso; omega), rfl⟩
      · skip
        refine j_al0 hX dX12_isWordOf_24 rfl ?_
        refine j_il3 hX dX12_isWordOf_25 ?_
        refine j_pVI1 (ci := 12) hX hG lk_X12_290 (ok_X12_isState h2) (by decide) rfl (Nat.le_of_ble_eq_true rfl) (Nat.le_of_ble_eq_true rfl) (Nat.le_of_ble_eq_true rfl) rfl dX12_isWordOf_26 ?_
        refine j_ifz_eq (tgt := 36) hX dX12_isWordOf_29 (by decide) (fun h_29 => ?_) (fun h_29 => ?_)
        · skip
          refine j_iconst hX dX12_isWordOf_36 ⟨by decide, by decide⟩ ?_
          exact j_retZ hR dX12_isWordOf_37 (by omega) ⟨by split <;> first | rfl | (exfalso; omega), rfl⟩
        · skip
          refine j_iconst hX dX12_isWordOf_32 ⟨by decide, by decide⟩ ?_
          refine j_goto (tgt := 37) hX dX12_isWordOf_33 (by decide) ?_
          exact j_retZ hR dX12_isWordOf_37 (by omega) ⟨by split <;> first | rfl | (exfalso; omega), rfl⟩
set_option maxHeartbeats 4000000 in
theorem ok_X12_wordOf {V : VV} {a b c : Int} (h2 : 2 ≤ V 55 1 ∧ V 55 1 ≤ 6) (ha : 0 ≤ a ∧ a < V 55 1) (hb : 0 ≤ b ∧ b < V 55 1) (hc : V 55 2 = 2 ∨ 0 ≤ c ∧ c < V 55 1) : Ok NA yX12_wordOf cX12_wordOf 4 (some .int) 0 0 [vA 55, vI a, vI b, vI c] V (pI (fun x9 V' => x9 = (if V 55 2 = 2 then V 55 1 * a + b else V 55 1 * (V 55 1 * a + b) + c) ∧ V' = V)) := by
  refine Ok.intro (by decide +kernel) (Nat.le_of_ble_eq_true rfl) (fun X G hX hG hR hoa hoV => ?_)
  show J X G 0 [vA 55, vI a, vI b, vI c] [] V
  have p1 := m66 5 (a := V 55 1) (b := a) (by omega) (by omega)
  have p2 := m66 35 (a := V 55 1) (b := V 55 1 * a + b) (by omega) (by omega)
  refine j_al0 hX dX12_wordOf_0 rfl ?_
  refine j_getI hX hG fl_X12_139 (Or.inl rfl) (by decide) dX12_wordOf_1 ?_
  refine j_iconst hX dX12_wordOf_4 ⟨by decide, by decide⟩ ?_
  refine j_icmp_ne (tgt := 19) hX dX12_wordOf_5 (by decide) (fun h_5 => ?_) (fun h_5 => ?_)
  · skip
    refine j_al0 hX dX12_wordOf_19 rfl ?_
    refine j_getI hX hG fl_X12_136 (Or.inl rfl) (by decide) dX12_wordOf_20 ?_
    refine j_al0 hX dX12_wordOf_23 rfl ?_
    refine j_getI hX hG fl_X12_136 (Or.inl rfl) (by decide) dX12_wordOf_24 ?_
    refine j_il1 hX dX12_wordOf_27 ?_
    refine j_imul hX dX12_wordOf_28 (by omega) ?_
    refine j_il2 hX dX12_wordOf_29 ?_
    refine j_iadd hX dX12_wordOf_30 (by omega) ?_
    refine j_imul hX dX12_wordOf_31 (by omega) ?_
    refine j_il3 hX dX12_wordOf_32 ?_
    refine j_iadd hX dX12_wordOf_33 (by omega) ?_
    exact j_retI hR dX12_wordOf_34 ⟨by first | exact (if_pos (by omega)).symm | exact (if_neg (by omega)).symm, rfl⟩
  · skip
    refine j_al0 hX dX12_wordOf_8 rfl ?_
    refine j_getI hX hG fl_X12_136 (Or.inl rfl) (by decide) dX12_wordOf_9 ?_
    refine j_il1 hX dX12_wordOf_12 ?_
    refine j_imul hX dX12_wordOf_13 (by omega) ?_
    refine j_il2 hX dX12_wordOf_14 ?_
    refine j_iadd hX dX12_wordOf_15 (by omega) ?_
    refine j_goto (tgt := 34) hX dX12_wordOf_16 (by decide) ?_
    exact j_retI hR dX12_wordOf_34 ⟨by first | exact (if_pos (by omega)).symm | exact (if_neg (by omega)).symm, rfl⟩
set_option maxHeartbeats 4000000 in
theorem ok_X12_rule {V : VV} {a b c : Int} (hmo : MO V) : Ok NA yX12_rule cX12_rule 4 (some .int) 3 66 [vA 55, vI a, vI b, vI c] V (pI (fun x9 V' => (((0 ≤ a ∧ a < V 55 1) ∧ (0 ≤ b ∧ b < V 55 1) ∧ (V 55 2 = 2 ∨ 0 ≤ c ∧ c < V 55 1)) ∧ x9 = V 58 (if V 55 2 = 2 then V 55 1 * a + b else V 55 1 * (V 55 1 * a + b) + c) ∧ V' = up V 55 0 0) ∨ (¬ ((0 ≤ a ∧ a < V 55 1) ∧ (0 ≤ b ∧ b < V 55 1) ∧ (V 55 2 = 2 ∨ 0 ≤ c ∧ c < V 55 1)) ∧ x9 = 0 ∧ V' = up (up V 55 0 0) 55 0 1))) := by
  refine Ok.intro (by decide +kernel) (Nat.le_of_ble_eq_true rfl) (fun X G hX hG hR hoa hoV => ?_)
  show J X G 0 [vA 55, vI a, vI b, vI c] [] V
  have hb9 := hmo.b
  refine j_al0 hX dX12_rule_0 rfl ?_
  refine j_iconst hX dX12_rule_1 ⟨by decide, by decide⟩ ?_
  refine j_putI hX hG fp_X12_126 rfl (by decide) dX12_rule_2 ?_
  obtain ⟨U, hU⟩ : ∃ U, U = up V 55 0 0 := ⟨_, rfl⟩
  rw [← hU]
  have u0 : U 55 0 = 0 := by rw [hU]; exact up_s ..
  have uF : ∀ b, b ≠ 0 → U 55 b = V 55 b := fun b hb => by rw [hU]; exact up_n _ (fun q => hb q.2)
  have uC : ∀ a b, a ≠ 55 → U a b = V a b := fun a b ha => by rw [hU]; exact up_n _ (fun q => ha q.1)
  have moU : MO U := hmo.t uF
  have e1 := uF 1 (by decide)
  have e2 := uF 2 (by decide)
  refine j_al0 hX dX12_rule_5 rfl ?_
  refine j_al0 hX dX12_rule_6 rfl ?_
  refine j_il1 hX dX12_rule_7 ?_
  refine j_il2 hX dX12_rule_8 ?_
  refine j_il3 hX dX12_rule_9 ?_
  refine j_pVI3 (ci := 12) hX hG lk_X12_312 (ok_X12_isWordOf (by omega)) (by decide) rfl (Nat.le_of_ble_eq_true rfl) (Nat.le_of_ble_eq_true rfl) (Nat.le_of_ble_eq_true rfl) rfl dX12_rule_10 ?_
  refine j_iconst hX dX12_rule_13 ⟨by decide, by decide⟩ ?_
  refine j_eqS (st' := [vI 1, vI (if (0 ≤ a ∧ a < V 55 1) ∧ (0 ≤ b ∧ b < V 55 1) ∧ (V 55 2 = 2 ∨ 0 ≤ c ∧ c < V 55 1) then 1 else 0), vA 55]) (by rw [e1, e2]) ?_
  refine j_cVI2 (ci := 12) hX hG lk_X12_168 (ok_X12_may u0 (by decide)) (by decide) rfl (Nat.le_of_ble_eq_true rfl) (Nat.le_of_ble_eq_true rfl) (Nat.le_of_ble_eq_true rfl) rfl dX12_rule_14 (fun x_14 V_14 h_14 => ?_)
  skip
  refine j_if_eq (tgt := 35) hX dX12_rule_17 (by decide) (fun h_17 => ?_) (fun h_17 => ?_)
  · skip
    obtain ⟨c_14, -, w_14⟩ := h_14.elim (fun q => absurd q.2.1 (by omega)) id
    refine j_iconst hX dX12_rule_35 ⟨by decide, by decide⟩ ?_
    exact j_retI hR dX12_rule_36 (by first | exact Or.inl ⟨c9, rfl, hU⟩ | exact Or.inr ⟨fun z => by rw [if_pos z] at c_14; exact absurd c_14 (by decide), rfl, by rw [w_14, hU]⟩)
  · skip
    obtain ⟨c_14, -, w_14⟩ := h_14.elim id (fun q => absurd q.2.1 (by omega))
    have w2_14 := w_14.symm
    subst w2_14
    have c9 : (0 ≤ a ∧ a < V 55 1) ∧ (0 ≤ b ∧ b < V 55 1) ∧ (V 55 2 = 2 ∨ 0 ≤ c ∧ c < V 55 1) := Classical.byContradiction fun z => c_14 (if_neg z)
    have w9 := hmo.w c9
    refine j_al0 hX dX12_rule_20 rfl ?_
    refine j_getR (q := 58) hX hG fl_X12_16 rfl rfl (by decide) dX12_rule_21 ?_
    refine j_al0 hX dX12_rule_24 rfl ?_
    refine j_il1 hX dX12_rule_25 ?_
    refine j_il2 hX dX12_rule_26 ?_
    refine j_il3 hX dX12_rule_27 ?_
    refine j_pVI3 (ci := 12) hX hG lk_X12_315 (ok_X12_wordOf (by omega) (by omega) (by omega) (by omega)) (by decide) rfl (Nat.le_of_ble_eq_true rfl) (Nat.le_of_ble_eq_true rfl) (Nat.le_of_ble_eq_true rfl) rfl dX12_rule_28 ?_
    refine j_eqS (st' := [vI (if V 55 2 = 2 then V 55 1 * a + b else V 55 1 * (V 55 1 * a + b) + c), vA 58]) (by rw [e1, e2]) ?_
    refine j_iald (n := 216) hX hG (by decide) (by omega) dX12_rule_31 ?_
    refine j_eqS (st' := [vI (V 58 (if V 55 2 = 2 then V 55 1 * a + b else V 55 1 * (V 55 1 * a + b) + c))]) (by rw [uC 58 _ (by decide)]) ?_
    refine j_goto (tgt := 36) hX dX12_rule_32 (by decide) ?_
    exact j_retI hR dX12_rule_36 (by first | exact Or.inl ⟨c9, rfl, hU⟩ | exact Or.inr ⟨fun z => by rw [if_pos z] at c_14; exact absurd c_14 (by decide), rfl, by rw [w_14, hU]⟩)
set_option maxHeartbeats 4000000 in
theorem ok_X12_words {V : VV} {s : Int} (hmo : MO V) : Ok NA yX12_words cX12_words 4 (some .int) 2 43 [vA 55, vI s] V (pI (fun x9 V' => ((0 ≤ s ∧ s < V 55 1) ∧ x9 = cntI (fun e => V 58 e == s) (V 55 3).toNat ∧ V' = up V 55 0 0) ∨ (¬ (0 ≤ s ∧ s < V 55 1) ∧ x9 = 0 ∧ V' = up (up V 55 0 0) 55 0 1))) := by
  refine Ok.intro (by decide +kernel) (Nat.le_of_ble_eq_true rfl) (fun X G hX hG hR hoa hoV => ?_)
  show J X G 0 [vA 55, vI s, vU, vU] [] V
  have hb9 := hmo.b
  refine j_al0 hX dX12_words_0 rfl ?_
  refine j_iconst hX dX12_words_1 ⟨by decide, by decide⟩ ?_
  refine j_putI hX hG fp_X12_126 rfl (by decide) dX12_words_2 ?_
  obtain ⟨U, hU⟩ : ∃ U, U = up V 55 0 0 := ⟨_, rfl⟩
  rw [← hU]
  have u0 : U 55 0 = 0 := by rw [hU]; exact up_s ..
  have uF : ∀ b, b ≠ 0 → U 55 b = V 55 b := fun b hb => by rw [hU]; exact up_n _ (fun q => hb q.2)
  have uC : ∀ a b, a ≠ 55 → U a b = V a b := fun a b ha => by rw [hU]; exact up_n _ (fun q => ha q.1)
  have moU : MO U := hmo.t uF
  have e1 := uF 1 (by decide)
  have e3 := uF 3 (by decide)
  refine j_al0 hX dX12_words_5 rfl ?_
  refine j_al0 hX dX12_words_6 rfl ?_
  refine j_il1 hX dX12_words_7 ?_
  refine j_pVI1 (ci := 12) hX hG lk_X12_290 (ok_X12_isState (by omega)) (by decide) rfl (Nat.le_of_ble_eq_true rfl) (Nat.le_of_ble_eq_true rfl) (Nat.le_of_ble_eq_true rfl) rfl dX12_words_8 ?_
  refine j_iconst hX dX12_words_11 ⟨by decide, by decide⟩ ?_
  refine j_cVI2 (ci := 12) hX hG lk_X12_168 (ok_X12_may u0 (by decide)) (by decide) rfl (Nat.le_of_ble_eq_true rfl) (Nat.le_of_ble_eq_true rfl) (Nat.le_of_ble_eq_true rfl) rfl dX12_words_12 (fun x_12 V_12 h_12 => ?_)
  skip
  refine j_if_ne (tgt := 20) hX dX12_words_15 (by decide) (fun h_15 => ?_) (fun h_15 => ?_)
  · skip
    obtain ⟨c_12, -, w_12⟩ := h_12.elim id (fun q => absurd q.2.1 (by omega))
    have w2_12 := w_12.symm
    subst w2_12
    have c9 : 0 ≤ s ∧ s < U 55 1 := Classical.byContradiction fun z => c_12 (if_neg z)
    refine j_iconst hX dX12_words_20 ⟨by decide, by decide⟩ ?_
    refine j_is2 hX dX12_words_21 rfl ?_
    refine j_iconst hX dX12_words_22 ⟨by decide, by decide⟩ ?_
    refine j_is3 hX dX12_words_23 rfl ?_
    have lp_24 : ∀ (f9 : Nat) (c e : Int), (0 ≤ e ∧ e ≤ V 55 3) → (c = cntI (fun e => V 58 e == s) e.toNat) → ((V 55 3 - e).toNat) < f9 → J X G 24 [vA 55, vI s, vI c, vI e] [] U := by
      intro f9
      induction f9 with
      | zero => intro c e _ _ hm; exact absurd hm (Nat.not_lt_zero _)
      | succ f9 ih_24 =>
        intro c e he hc hm
        refine j_il3 hX dX12_words_24 ?_
        refine j_al0 hX dX12_words_25 rfl ?_
        refine j_getI hX hG fl_X12_148 (Or.inl rfl) (by decide) dX12_words_26 ?_
        refine j_icmp_ge (tgt := 56) hX dX12_words_29 (by decide) (fun h_29 => ?_) (fun h_29 => ?_)
        · skip
          refine j_il2 hX dX12_words_56 ?_
          exact j_retI hR dX12_words_57 (Or.inl ⟨by omega, by rw [hc, show e = V 55 3 by omega], hU⟩)
        · skip
          have hcb := cntI_b (fun e => V 58 e == s) e.toNat
          refine j_il2 hX dX12_words_32 ?_
          refine j_al0 hX dX12_words_33 rfl ?_
          refine j_getR (q := 58) hX hG fl_X12_16 rfl rfl (by decide) dX12_words_34 ?_
          refine j_il3 hX dX12_words_37 ?_
          refine j_iald (n := 216) hX hG (by decide) (by omega) dX12_words_38 ?_
          refine j_il1 hX dX12_words_39 ?_
          refine j_icmp_ne (tgt := 47) hX dX12_words_40 (by decide) (fun h_40 => ?_) (fun h_40 => ?_)
          · skip
            refine j_iconst hX dX12_words_47 ⟨by decide, by decide⟩ ?_
            refine j_iadd hX dX12_words_48 (by omega) ?_
            refine j_is2 hX dX12_words_49 rfl ?_
            refine j_inc3 hX dX12_words_50 rfl (by omega) ?_
            refine j_goto (tgt := 24) hX dX12_words_53 (by decide) ?_
            exact ih_24 _ _ (by omega) (by rw [cntI_S he.1, ← hc, ← uC 58 e (by decide)]; first | rw [if_pos (by simpa using h_40)] | rw [if_neg (by simpa using h_40)]) (by omega)
          · skip
            refine j_iconst hX dX12_words_43 ⟨by decide, by decide⟩ ?_
            refine j_goto (tgt := 48) hX dX12_words_44 (by decide) ?_
            refine j_iadd hX dX12_words_48 (by omega) ?_
            refine j_is2 hX dX12_words_49 rfl ?_
            refine j_inc3 hX dX12_words_50 rfl (by omega) ?_
            refine j_goto (tgt := 24) hX dX12_words_53 (by decide) ?_
            exact ih_24 _ _ (by omega) (by rw [cntI_S he.1, ← hc, ← uC 58 e (by decide)]; first | rw [if_pos (by simpa using h_40)] | rw [if_neg (by simpa using h_40)]) (by omega)
    exact lp_24 _ _ _ (by omega) rfl (Nat.lt_succ_self _)
  · skip
    obtain ⟨c_12, -, w_12⟩ := h_12.elim (fun q => absurd q.2.1 (by omega)) id
    refine j_iconst hX dX12_words_18 ⟨by decide, by decide⟩ ?_
    exact j_retI hR dX12_words_19 (Or.inr ⟨fun z => by rw [if_pos (by omega)] at c_12; exact absurd c_12 (by decide), rfl, by rw [w_12, hU]⟩)
set_option maxHeartbeats 4000000 in
theorem ok_X12_timesWord {V : VV} {d e : Int} {q : Nat} (hmg : MG V q) (hmo : MO V) (hd : 0 ≤ d ∧ d < V 55 3) (he : 0 ≤ e ∧ e < V 55 3) : Ok NA yX12_timesWord cX12_timesWord 5 (some .int) 1 22 [vA 55, vI d, vI e] V (pI (fun x9 V' => x9 = tWd q (gO q) (V 55 2) d e ∧ V' = V)) := by
  refine Ok.intro (by decide +kernel) (Nat.le_of_ble_eq_true rfl) (fun X G hX hG hR hoa hoV => ?_)
  show J X G 0 [vA 55, vI d, vI e, vU, vU] [] V
  have hq9 := hmg.1
  have hq6 := gO_le hq9
  have e9 : V 55 1 = gO q := hmg.2.1
  have hb9 := hmo.b
  have d9 := tW_b hmg hmo hd
  have e7 := tW_b hmg hmo he
  have m0 := gM_lt hq9 d9.1 e7.1
  have m1 := gM_lt hq9 d9.2.1 e7.2.1
  have p1 := m66 5 (a := (gO q : Int)) (b := gM q (d / gO q % gO q) (e / gO q % gO q)) (by omega) (by omega)
  refine j_al0 hX dX12_timesWord_0 rfl ?_
  refine j_il1 hX dX12_timesWord_1 ?_
  refine j_al0 hX dX12_timesWord_2 rfl ?_
  refine j_getI hX hG fl_X12_136 (Or.inl rfl) (by decide) dX12_timesWord_3 ?_
  refine j_eqS (st' := [vI (gO q), vI d, vA 55]) (by rw [e9]) ?_
  refine j_irem hX dX12_timesWord_6 (by omega) hd.1 ?_
  refine j_il2 hX dX12_timesWord_7 ?_
  refine j_al0 hX dX12_timesWord_8 rfl ?_
  refine j_getI hX hG fl_X12_136 (Or.inl rfl) (by decide) dX12_timesWord_9 ?_
  refine j_eqS (st' := [vI (gO q), vI e, vI (d % gO q), vA 55]) (by rw [e9]) ?_
  refine j_irem hX dX12_timesWord_12 (by omega) he.1 ?_
  refine j_pVI2 (ci := 12) hX hG lk_X12_293 (ok_X12_times (by first | assumption | omega | decide) d9.1 e7.1) (by decide) rfl (Nat.le_of_ble_eq_true rfl) (Nat.le_of_ble_eq_true rfl) (Nat.le_of_ble_eq_true rfl) rfl dX12_timesWord_13 ?_
  refine j_is3 hX dX12_timesWord_16 rfl ?_
  refine j_al0 hX dX12_timesWord_17 rfl ?_
  refine j_il1 hX dX12_timesWord_18 ?_
  refine j_al0 hX dX12_timesWord_19 rfl ?_
  refine j_getI hX hG fl_X12_136 (Or.inl rfl) (by decide) dX12_timesWord_20 ?_
  refine j_eqS (st' := [vI (gO q), vI d, vA 55]) (by rw [e9]) ?_
  refine j_idiv hX dX12_timesWord_23 (by omega) hd.1 ?_
  refine j_al0 hX dX12_timesWord_24 rfl ?_
  refine j_getI hX hG fl_X12_136 (Or.inl rfl) (by decide) dX12_timesWord_25 ?_
  refine j_eqS (st' := [vI (gO q), vI (d / gO q), vA 55]) (by rw [e9]) ?_
  refine j_irem hX dX12_timesWord_28 (by omega) (Int.ediv_nonneg hd.1 (by omega)) ?_
  refine j_il2 hX dX12_timesWord_29 ?_
  refine j_al0 hX dX12_timesWord_30 rfl ?_
  refine j_getI hX hG fl_X12_136 (Or.inl rfl) (by decide) dX12_timesWord_31 ?_
  refine j_eqS (st' := [vI (gO q), vI e, vI (d / gO q % gO q), vA 55]) (by rw [e9]) ?_
  refine j_idiv hX dX12_timesWord_34 (by omega) he.1 ?_
  refine j_al0 hX dX12_timesWord_35 rfl ?_
  refine j_getI hX hG fl_X12_136 (Or.inl rfl) (by decide) dX12_timesWord_36 ?_
  refine j_eqS (st' := [vI (gO q), vI (e / gO q), vI (d / gO q % gO q), vA 55]) (by rw [e9]) ?_
  refine j_irem hX dX12_timesWord_39 (by omega) (Int.ediv_nonneg he.1 (by omega)) ?_
  refine j_pVI2 (ci := 12) hX hG lk_X12_293 (ok_X12_times (by first | assumption | omega | decide) d9.2.1 e7.2.1) (by decide) rfl (Nat.le_of_ble_eq_true rfl) (Nat.le_of_ble_eq_true rfl) (Nat.le_of_ble_eq_true rfl) rfl dX12_timesWord_40 ?_
  refine j_is4 hX dX12_timesWord_43 rfl ?_
  refine j_al0 hX dX12_timesWord_45 rfl ?_
  refine j_getI hX hG fl_X12_139 (Or.inl rfl) (by decide) dX12_timesWord_46 ?_
  refine j_iconst hX dX12_timesWord_49 ⟨by decide, by decide⟩ ?_
  refine j_icmp_ne (tgt := 65) hX dX12_timesWord_50 (by decide) (fun h_50 => ?_) (fun h_50 => ?_)
  · skip
    refine j_al0 hX dX12_timesWord_65 rfl ?_
    refine j_getI hX hG fl_X12_136 (Or.inl rfl) (by decide) dX12_timesWord_66 ?_
    refine j_eqS (st' := [vI (gO q)]) (by rw [e9]) ?_
    have d8 := d9.2.2 (by omega)
    have e6 := e7.2.2 (by omega)
    have m2 := gM_lt hq9 d8 e6
    have p2 := m66 5 (a := (gO q : Int)) (b := gM q (d / gO q / gO q) (e / gO q / gO q)) (by omega) (by omega)
    have p3 := m66 35 (a := (gO q : Int)) (b := gO q * gM q (d / gO q / gO q) (e / gO q / gO q) + gM q (d / gO q % gO q) (e / gO q % gO q)) (by omega) (by omega)
    refine j_al0 hX dX12_timesWord_69 rfl ?_
    refine j_getI hX hG fl_X12_136 (Or.inl rfl) (by decide) dX12_timesWord_70 ?_
    refine j_eqS (st' := [vI (gO q), vI (gO q)]) (by rw [e9]) ?_
    refine j_al0 hX dX12_timesWord_73 rfl ?_
    refine j_il1 hX dX12_timesWord_74 ?_
    refine j_al0 hX dX12_timesWord_75 rfl ?_
    refine j_getI hX hG fl_X12_136 (Or.inl rfl) (by decide) dX12_timesWord_76 ?_
    refine j_eqS (st' := [vI (gO q), vI d, vA 55, vI (gO q), vI (gO q)]) (by rw [e9]) ?_
    refine j_idiv hX dX12_timesWord_79 (by omega) hd.1 ?_
    refine j_al0 hX dX12_timesWord_80 rfl ?_
    refine j_getI hX hG fl_X12_136 (Or.inl rfl) (by decide) dX12_timesWord_81 ?_
    refine j_eqS (st' := [vI (gO q), vI (d / gO q), vA 55, vI (gO q), vI (gO q)]) (by rw [e9]) ?_
    refine j_idiv hX dX12_timesWord_84 (by omega) (Int.ediv_nonneg hd.1 (by omega)) ?_
    refine j_il2 hX dX12_timesWord_85 ?_
    refine j_al0 hX dX12_timesWord_86 rfl ?_
    refine j_getI hX hG fl_X12_136 (Or.inl rfl) (by decide) dX12_timesWord_87 ?_
    refine j_eqS (st' := [vI (gO q), vI e, vI (d / gO q / gO q), vA 55, vI (gO q), vI (gO q)]) (by rw [e9]) ?_
    refine j_idiv hX dX12_timesWord_90 (by omega) he.1 ?_
    refine j_al0 hX dX12_timesWord_91 rfl ?_
    refine j_getI hX hG fl_X12_136 (Or.inl rfl) (by decide) dX12_timesWord_92 ?_
    refine j_eqS (st' := [vI (gO q), vI (e / gO q), vI (d / gO q / gO q), vA 55, vI (gO q), vI (gO q)]) (by rw [e9]) ?_
    refine j_idiv hX dX12_timesWord_95 (by omega) (Int.ediv_nonneg he.1 (by omega)) ?_
    refine j_pVI2 (ci := 12) hX hG lk_X12_293 (ok_X12_times (by first | assumption | omega | decide) d8 e6) (by decide) rfl (Nat.le_of_ble_eq_true rfl) (Nat.le_of_ble_eq_true rfl) (Nat.le_of_ble_eq_true rfl) rfl dX12_timesWord_96 ?_
    refine j_imul hX dX12_timesWord_99 (by omega) ?_
    refine j_il4 hX dX12_timesWord_100 ?_
    refine j_iadd hX dX12_timesWord_102 (by omega) ?_
    refine j_imul hX dX12_timesWord_103 (by omega) ?_
    refine j_il3 hX dX12_timesWord_104 ?_
    refine j_iadd hX dX12_timesWord_105 (by omega) ?_
    exact j_retI hR dX12_timesWord_106 ⟨by unfold tWd; first | exact (if_pos (by omega)).symm | exact (if_neg (by omega)).symm, rfl⟩
  · skip
    refine j_al0 hX dX12_timesWord_53 rfl ?_
    refine j_getI hX hG fl_X12_136 (Or.inl rfl) (by decide) dX12_timesWord_54 ?_
    refine j_eqS (st' := [vI (gO q)]) (by rw [e9]) ?_
    refine j_il4 hX dX12_timesWord_57 ?_
    refine j_imul hX dX12_timesWord_59 (by omega) ?_
    refine j_il3 hX dX12_timesWord_60 ?_
    refine j_iadd hX dX12_timesWord_61 (by omega) ?_
    refine j_goto (tgt := 106) hX dX12_timesWord_62 (by decide) ?_
    exact j_retI hR dX12_timesWord_106 ⟨by unfold tWd; first | exact (if_pos (by omega)).symm | exact (if_neg (by omega)).symm, rfl⟩
set_option maxHeartbeats 4000000 in
theorem ok_X12_isClosed {V : VV} {s : Nat} (hmo : MO V) (htm : TRM V) (hs0 : s < 64) : Ok NA yX12_isClosed cX12_isClosed 4 (some .boolean) 1 21 [vA 55, vI (s : Int)] V (pI (fun x9 V' => x9 = (if stayB (V 58) s (V 55 1) (V 55 2) (V 55 3) = true then 1 else 0) ∧ V' = V)) := by
  refine Ok.intro (by decide +kernel) (Nat.le_of_ble_eq_true rfl) (fun X G hX hG hR hoa hoV => ?_)
  show J X G 0 [vA 55, vI (s : Int), vU, vU] [] V
  have hb9 := hmo.b
  refine j_iconst hX dX12_isClosed_0 ⟨by decide, by decide⟩ ?_
  refine j_is2 hX dX12_isClosed_1 rfl ?_
  have lp_2 : ∀ (f9 : Nat) (e : Int), (0 ≤ e ∧ e ≤ V 55 3) → (∀ z, 0 ≤ z → z < e → (inWb s (V 55 1) (V 55 2) z = true → s.testBit (V 58 z).toNat = true)) → ((V 55 3 - e).toNat) < f9 → J X G 2 [vA 55, vI (s : Int), vI e, vU] [] V := by
    intro f9
    induction f9 with
    | zero => intro e _ _ hm; exact absurd hm (Nat.not_lt_zero _)
    | succ f9 ih_2 =>
      intro e he hTT hm
      refine j_il2 hX dX12_isClosed_2 ?_
      refine j_al0 hX dX12_isClosed_3 rfl ?_
      refine j_getI hX hG fl_X12_148 (Or.inl rfl) (by decide) dX12_isClosed_4 ?_
      refine j_icmp_ge (tgt := 98) hX dX12_isClosed_7 (by decide) (fun h_7 => ?_) (fun h_7 => ?_)
      · skip
        refine j_iconst hX dX12_isClosed_98 ⟨by decide, by decide⟩ ?_
        exact j_retZ hR dX12_isClosed_99 (by omega) ⟨(if_pos (stay_t.mpr fun z z0 z1 => hTT z z0 (by omega))).symm, rfl⟩
      · skip
        have he9 : 0 ≤ e ∧ e < V 55 3 := by omega
        have hd0 : 0 ≤ e % V 55 1 ∧ e % V 55 1 < V 55 1 := md_b e (by omega)
        have hd1 : 0 ≤ e / V 55 1 % V 55 1 ∧ e / V 55 1 % V 55 1 < V 55 1 := md_b _ (by omega)
        have hd2 := hmo.dd he9
        have hte := htm e he9.1 he9.2
        change 0 ≤ V 58 e ∧ V 58 e < V 55 1 at hte
        have jn_72 : ∀ (b : Int), (b = if inWb s (V 55 1) (V 55 2) e = true then 1 else 0) → J X G 72 [vA 55, vI (s : Int), vI e, vU] [vI b] V := by
          intro b hs9
          refine j_is3 hX dX12_isClosed_72 rfl ?_
          refine j_il3 hX dX12_isClosed_73 ?_
          refine j_if_eq (tgt := 92) hX dX12_isClosed_74 (by decide) (fun h_74 => ?_) (fun h_74 => ?_)
          · skip
            refine j_inc2 hX dX12_isClosed_92 rfl (by omega) ?_
            refine j_goto (tgt := 2) hX dX12_isClosed_95 (by decide) ?_
            refine j_fg3 ?_
            exact ih_2 _ (by omega) (lt_stepI hTT (fun z => by first | exact (hasN_e (by omega) (by omega)).mp h_87 | (rw [hs9, if_pos z] at h_74; exact absurd h_74 (by decide)))) (by omega)
          · skip
            refine j_il1 hX dX12_isClosed_77 ?_
            refine j_al0 hX dX12_isClosed_78 rfl ?_
            refine j_getR (q := 58) hX hG fl_X12_16 rfl rfl (by decide) dX12_isClosed_79 ?_
            refine j_il2 hX dX12_isClosed_82 ?_
            refine j_iald (n := 216) hX hG (by decide) (by omega) dX12_isClosed_83 ?_
            refine j_pSI2 hX hG lk_X12_305 (ok_X12_has (by omega)) (Nat.le_of_ble_eq_true rfl) (Nat.le_of_ble_eq_true rfl) (Nat.le_of_ble_eq_true rfl) rfl dX12_isClosed_84 ?_
            refine j_ifz_ne (tgt := 92) hX dX12_isClosed_87 (by decide) (fun h_87 => ?_) (fun h_87 => ?_)
            · skip
              refine j_inc2 hX dX12_isClosed_92 rfl (by omega) ?_
              refine j_goto (tgt := 2) hX dX12_isClosed_95 (by decide) ?_
              refine j_fg3 ?_
              exact ih_2 _ (by omega) (lt_stepI hTT (fun z => by first | exact (hasN_e (by omega) (by omega)).mp h_87 | (rw [hs9, if_pos z] at h_74; exact absurd h_74 (by decide)))) (by omega)
            · skip
              refine j_iconst hX dX12_isClosed_90 ⟨by decide, by decide⟩ ?_
              exact j_retZ hR dX12_isClosed_91 (by omega) ⟨by rw [if_neg]; intro z; have z1 := stay_t.mp z e he9.1 he9.2 (by rw [hs9] at h_74; exact Classical.byContradiction fun y => h_74 (if_neg y)); exact h_87 ((hasN_e (by omega) (by omega)).mpr z1), rfl⟩
        refine j_il1 hX dX12_isClosed_10 ?_
        refine j_il2 hX dX12_isClosed_11 ?_
        refine j_al0 hX dX12_isClosed_12 rfl ?_
        refine j_getI hX hG fl_X12_136 (Or.inl rfl) (by decide) dX12_isClosed_13 ?_
        refine j_irem hX dX12_isClosed_16 (by omega) he9.1 ?_
        refine j_pSI2 hX hG lk_X12_305 (ok_X12_has (by omega)) (Nat.le_of_ble_eq_true rfl) (Nat.le_of_ble_eq_true rfl) (Nat.le_of_ble_eq_true rfl) rfl dX12_isClosed_17 ?_
        refine j_ifz_eq (tgt := 71) hX dX12_isClosed_20 (by decide) (fun h_20 => ?_) (fun h_20 => ?_)
        · skip
          refine j_iconst hX dX12_isClosed_71 ⟨by decide, by decide⟩ ?_
          exact jn_72 _ (by
          first
          | exact (if_pos (inW_of hmo he9 (Or.inl ⟨by omega, (hasN_e (by omega) (by omega)).mp h_20, (hasN_e (by omega) (by omega)).mp h_38⟩))).symm
          | exact (if_pos (inW_of hmo he9 (Or.inr ⟨by omega, (hasN_e (by omega) (by omega)).mp h_20, (hasN_e (by omega) (by omega)).mp h_38, (hasN_e (by omega) (by omega)).mp h_64⟩))).symm
          | exact (if_neg (fun z => h_20 ((hasN_e (by omega) (by omega)).mpr (inW_to hmo he9 z).1))).symm
          | exact (if_neg (fun z => h_38 ((hasN_e (by omega) (by omega)).mpr (inW_to hmo he9 z).2.1))).symm
          | exact (if_neg (fun z => h_64 ((hasN_e (by omega) (by omega)).mpr ((inW_to hmo he9 z).2.2 (by omega))))).symm)
        · skip
          refine j_il1 hX dX12_isClosed_23 ?_
          refine j_il2 hX dX12_isClosed_24 ?_
          refine j_al0 hX dX12_isClosed_25 rfl ?_
          refine j_getI hX hG fl_X12_136 (Or.inl rfl) (by decide) dX12_isClosed_26 ?_
          refine j_idiv hX dX12_isClosed_29 (by omega) he9.1 ?_
          refine j_al0 hX dX12_isClosed_30 rfl ?_
          refine j_getI hX hG fl_X12_136 (Or.inl rfl) (by decide) dX12_isClosed_31 ?_
          refine j_irem hX dX12_isClosed_34 (by omega) hd2.1 ?_
          refine j_pSI2 hX hG lk_X12_305 (ok_X12_has (by omega)) (Nat.le_of_ble_eq_true rfl) (Nat.le_of_ble_eq_true rfl) (Nat.le_of_ble_eq_true rfl) rfl dX12_isClosed_35 ?_
          refine j_ifz_eq (tgt := 71) hX dX12_isClosed_38 (by decide) (fun h_38 => ?_) (fun h_38 => ?_)
          · skip
            refine j_iconst hX dX12_isClosed_71 ⟨by decide, by decide⟩ ?_
            exact jn_72 _ (by
          first
          | exact (if_pos (inW_of hmo he9 (Or.inl ⟨by omega, (hasN_e (by omega) (by omega)).mp h_20, (hasN_e (by omega) (by omega)).mp h_38⟩))).symm
          | exact (if_pos (inW_of hmo he9 (Or.inr ⟨by omega, (hasN_e (by omega) (by omega)).mp h_20, (hasN_e (by omega) (by omega)).mp h_38, (hasN_e (by omega) (by omega)).mp h_64⟩))).symm
          | exact (if_neg (fun z => h_20 ((hasN_e (by omega) (by omega)).mpr (inW_to hmo he9 z).1))).symm
          | exact (if_neg (fun z => h_38 ((hasN_e (by omega) (by omega)).mpr (inW_to hmo he9 z).2.1))).symm
          | exact (if_neg (fun z => h_64 ((hasN_e (by omega) (by omega)).mpr ((inW_to hmo he9 z).2.2 (by omega))))).symm)
          · skip
            refine j_al0 hX dX12_isClosed_41 rfl ?_
            refine j_getI hX hG fl_X12_139 (Or.inl rfl) (by decide) dX12_isClosed_42 ?_
            refine j_iconst hX dX12_isClosed_45 ⟨by decide, by decide⟩ ?_
            refine j_icmp_eq (tgt := 67) hX dX12_isClosed_46 (by decide) (fun h_46 => ?_) (fun h_46 => ?_)
            · skip
              refine j_iconst hX dX12_isClosed_67 ⟨by decide, by decide⟩ ?_
              refine j_goto (tgt := 72) hX dX12_isClosed_68 (by decide) ?_
              exact jn_72 _ (by
          first
          | exact (if_pos (inW_of hmo he9 (Or.inl ⟨by omega, (hasN_e (by omega) (by omega)).mp h_20, (hasN_e (by omega) (by omega)).mp h_38⟩))).symm
          | exact (if_pos (inW_of hmo he9 (Or.inr ⟨by omega, (hasN_e (by omega) (by omega)).mp h_20, (hasN_e (by omega) (by omega)).mp h_38, (hasN_e (by omega) (by omega)).mp h_64⟩))).symm
          | exact (if_neg (fun z => h_20 ((hasN_e (by omega) (by omega)).mpr (inW_to hmo he9 z).1))).symm
          | exact (if_neg (fun z => h_38 ((hasN_e (by omega) (by omega)).mpr (inW_to hmo he9 z).2.1))).symm
          | exact (if_neg (fun z => h_64 ((hasN_e (by omega) (by omega)).mpr ((inW_to hmo he9 z).2.2 (by omega))))).symm)
            · skip
              refine j_il1 hX dX12_isClosed_49 ?_
              refine j_il2 hX dX12_isClosed_50 ?_
              refine j_al0 hX dX12_isClosed_51 rfl ?_
              refine j_getI hX hG fl_X12_136 (Or.inl rfl) (by decide) dX12_isClosed_52 ?_
              refine j_idiv hX dX12_isClosed_55 (by omega) he9.1 ?_
              refine j_al0 hX dX12_isClosed_56 rfl ?_
              refine j_getI hX hG fl_X12_136 (Or.inl rfl) (by decide) dX12_isClosed_57 ?_
              refine j_idiv hX dX12_isClosed_60 (by omega) hd2.1 ?_
              refine j_pSI2 hX hG lk_X12_305 (ok_X12_has (by omega)) (Nat.le_of_ble_eq_true rfl) (Nat.le_of_ble_eq_true rfl) (Nat.le_of_ble_eq_true rfl) rfl dX12_isClosed_61 ?_
              refine j_ifz_eq (tgt := 71) hX dX12_isClosed_64 (by decide) (fun h_64 => ?_) (fun h_64 => ?_)
              · skip
                refine j_iconst hX dX12_isClosed_71 ⟨by decide, by decide⟩ ?_
                exact jn_72 _ (by
          first
          | exact (if_pos (inW_of hmo he9 (Or.inl ⟨by omega, (hasN_e (by omega) (by omega)).mp h_20, (hasN_e (by omega) (by omega)).mp h_38⟩))).symm
          | exact (if_pos (inW_of hmo he9 (Or.inr ⟨by omega, (hasN_e (by omega) (by omega)).mp h_20, (hasN_e (by omega) (by omega)).mp h_38, (hasN_e (by omega) (by omega)).mp h_64⟩))).symm
          | exact (if_neg (fun z => h_20 ((hasN_e (by omega) (by omega)).mpr (inW_to hmo he9 z).1))).symm
          | exact (if_neg (fun z => h_38 ((hasN_e (by omega) (by omega)).mpr (inW_to hmo he9 z).2.1))).symm
          | exact (if_neg (fun z => h_64 ((hasN_e (by omega) (by omega)).mpr ((inW_to hmo he9 z).2.2 (by omega))))).symm)
              · skip
                refine j_iconst hX dX12_isClosed_67 ⟨by decide, by decide⟩ ?_
                refine j_goto (tgt := 72) hX dX12_isClosed_68 (by decide) ?_
                exact jn_72 _ (by
          first
          | exact (if_pos (inW_of hmo he9 (Or.inl ⟨by omega, (hasN_e (by omega) (by omega)).mp h_20, (hasN_e (by omega) (by omega)).mp h_38⟩))).symm
          | exact (if_pos (inW_of hmo he9 (Or.inr ⟨by omega, (hasN_e (by omega) (by omega)).mp h_20, (hasN_e (by omega) (by omega)).mp h_38, (hasN_e (by omega) (by omega)).mp h_64⟩))).symm
          | exact (if_neg (fun z => h_20 ((hasN_e (by omega) (by omega)).mpr (inW_to hmo he9 z).1))).symm
          | exact (if_neg (fun z => h_38 ((hasN_e (by omega) (by omega)).mpr (inW_to hmo he9 z).2.1))).symm
          | exact (if_neg (fun z => h_64 ((hasN_e (by omega) (by omega)).mpr ((inW_to hmo he9 z).2.2 (by omega))))).symm)
  exact lp_2 _ _ (by omega) (fun z z0 z1 => by omega) (Nat.lt_succ_self _)
set_option maxHeartbeats 4000000 in
theorem ok_X12_closed {V : VV} {q : Nat} (hmg : MG V q) (hmo : MO V) (htm : TRM V) : Ok NA yX12_closed cX12_closed 3 (some .int) 2 47 [vA 55] V (pI (fun x9 V' => x9 = stF (fun x => stayB (V 58) (nSp q (2 ^ x.toNat)) (V 55 1) (V 55 2) (V 55 3)) (gO q) ∧ V' = up V 55 0 0)) := by
  refine Ok.intro (by decide +kernel) (Nat.le_of_ble_eq_true rfl) (fun X G hX hG hR hoa hoV => ?_)
  show J X G 0 [vA 55, vU, vU] [] V
  have hq9 := hmg.1
  have hq6 := gO_le hq9
  have e9 : V 55 1 = gO q := hmg.2.1
  have hb9 := hmo.b
  refine j_al0 hX dX12_closed_0 rfl ?_
  refine j_iconst hX dX12_closed_1 ⟨by decide, by decide⟩ ?_
  refine j_putI hX hG fp_X12_126 rfl (by decide) dX12_closed_2 ?_
  obtain ⟨U, hU⟩ : ∃ U, U = up V 55 0 0 := ⟨_, rfl⟩
  rw [← hU]
  have u0 : U 55 0 = 0 := by rw [hU]; exact up_s ..
  have uF : ∀ b, b ≠ 0 → U 55 b = V 55 b := fun b hb => by rw [hU]; exact up_n _ (fun q => hb q.2)
  have uC : ∀ a b, a ≠ 55 → U a b = V a b := fun a b ha => by rw [hU]; exact up_n _ (fun q => ha q.1)
  have mgU : MG U q := hmg.t uF uC
  have e8 : U 55 1 = gO q := (uF 1 (by decide)).trans e9
  have moU : MO U := hmo.t uF
  have tmU : TRM U := htm.t uF uC
  have eU : ∀ s : Nat, stayB (U 58) s (U 55 1) (U 55 2) (U 55 3) = stayB (V 58) s (V 55 1) (V 55 2) (V 55 3) := fun s => by rw [uF 1 (by decide), uF 2 (by decide), uF 3 (by decide), show U 58 = V 58 from funext fun b => uC 58 b (by decide)]
  refine j_iconst hX dX12_closed_5 ⟨by decide, by decide⟩ ?_
  refine j_is1 hX dX12_closed_6 rfl ?_
  refine j_iconst hX dX12_closed_7 ⟨by decide, by decide⟩ ?_
  refine j_is2 hX dX12_closed_8 rfl ?_
  have lp_9 : ∀ (f9 : Nat) (c x : Int), (0 ≤ x ∧ x ≤ gO q) → (c = stF (fun x => stayB (V 58) (nSp q (2 ^ x.toNat)) (V 55 1) (V 55 2) (V 55 3)) x.toNat) → (((gO q : Int) - x).toNat) < f9 → J X G 9 [vA 55, vI c, vI x] [] U := by
    intro f9
    induction f9 with
    | zero => intro c x _ _ hm; exact absurd hm (Nat.not_lt_zero _)
    | succ f9 ih_9 =>
      intro c x hx hc hm
      refine j_il2 hX dX12_closed_9 ?_
      refine j_al0 hX dX12_closed_10 rfl ?_
      refine j_getI hX hG fl_X12_136 (Or.inl rfl) (by decide) dX12_closed_11 ?_
      refine j_icmp_ge (tgt := 47) hX dX12_closed_14 (by decide) (fun h_14 => ?_) (fun h_14 => ?_)
      · skip
        refine j_il1 hX dX12_closed_47 ?_
        exact j_retI hR dX12_closed_48 ⟨by rw [hc, show x = gO q by omega, Int.toNat_natCast], hU⟩
      · skip
        refine j_il1 hX dX12_closed_17 ?_
        refine j_al0 hX dX12_closed_18 rfl ?_
        refine j_al0 hX dX12_closed_19 rfl ?_
        refine j_iconst hX dX12_closed_20 ⟨by decide, by decide⟩ ?_
        refine j_il2 hX dX12_closed_21 ?_
        refine j_ishl hX dX12_closed_22 (by omega) (p2_30 (by omega)) ?_
        have hxp : (2 : Nat) ^ x.toNat < 2 ^ gO q := Nat.pow_lt_pow_right (by decide) (by omega)
        have hsl := nIt_lt hq9 (s := 2 ^ x.toNat ||| 1) (by exact nor1_lt hq6 hxp) (gO q)
        have h64 := gO_64 hq9
        refine j_eqS (st' := [vI ((2 ^ x.toNat : Nat) : Int), vA 55, vA 55, vI c]) (by rw [Int.one_mul]; push_cast; rfl) ?_
        refine j_pVI1 (ci := 12) hX hG lk_X12_309 (ok_X12_generatedBy mgU hxp) (by decide) rfl (Nat.le_of_ble_eq_true rfl) (Nat.le_of_ble_eq_true rfl) (Nat.le_of_ble_eq_true rfl) rfl dX12_closed_23 ?_
        refine j_pVI1 (ci := 12) hX hG lk_X12_325 (ok_X12_isClosed moU tmU (Nat.lt_of_lt_of_le hsl h64)) (by decide) rfl (Nat.le_of_ble_eq_true rfl) (Nat.le_of_ble_eq_true rfl) (Nat.le_of_ble_eq_true rfl) rfl dX12_closed_26 ?_
        refine j_ifz_eq (tgt := 38) hX dX12_closed_29 (by decide) (fun h_29 => ?_) (fun h_29 => ?_)
        · skip
          refine j_iconst hX dX12_closed_38 ⟨by decide, by decide⟩ ?_
          refine j_ior hX dX12_closed_39 ?_
          refine j_is1 hX dX12_closed_40 rfl ?_
          refine j_inc2 hX dX12_closed_41 rfl (by omega) ?_
          refine j_goto (tgt := 9) hX dX12_closed_44 (by decide) ?_
          exact ih_9 _ _ (by omega) (by rw [stF_S hx.1]; first | (rw [if_pos (by rw [← eU]; exact h_29), hc]) | (rw [if_neg (by rw [← eU]; exact h_29), hc, bor_00 (stF_r (q := q) hq9 (by omega))])) (by omega)
        · skip
          refine j_iconst hX dX12_closed_32 ⟨by decide, by decide⟩ ?_
          refine j_il2 hX dX12_closed_33 ?_
          refine j_ishl hX dX12_closed_34 (by omega) (p2_30 (by omega)) ?_
          refine j_goto (tgt := 39) hX dX12_closed_35 (by decide) ?_
          refine j_ior hX dX12_closed_39 ?_
          refine j_is1 hX dX12_closed_40 rfl ?_
          refine j_inc2 hX dX12_closed_41 rfl (by omega) ?_
          refine j_goto (tgt := 9) hX dX12_closed_44 (by decide) ?_
          exact ih_9 _ _ (by omega) (by rw [stF_S hx.1]; first | (rw [if_pos (by rw [← eU]; exact h_29), hc]) | (rw [if_neg (by rw [← eU]; exact h_29), hc, bor_00 (stF_r (q := q) hq9 (by omega))])) (by omega)
  exact lp_9 _ _ _ (by omega) rfl (Nat.lt_succ_self _)
set_option maxHeartbeats 4000000 in
theorem ok_X12_isCell {V : VV} {k : Int} (hnm : 1 ≤ V 55 5 ∧ V 55 5 ≤ 16) : Ok NA yX12_isCell cX12_isCell 2 (some .boolean) 1 22 [vA 55, vI k] V (pI (fun x9 V' => x9 = (if 0 ≤ k ∧ k < V 55 5 then 1 else 0) ∧ V' = V)) := by
  refine Ok.intro (by decide +kernel) (Nat.le_of_ble_eq_true rfl) (fun X G hX hG hR hoa hoV => ?_)
  show J X G 0 [vA 55, vI k] [] V
  refine j_il1 hX dX12_isCell_0 ?_
  refine j_iconst hX dX12_isCell_1 ⟨by decide, by decide⟩ ?_
  refine j_al0 hX dX12_isCell_2 rfl ?_
  refine j_getI hX hG fl_X12_142 (Or.inl rfl) (by decide) dX12_isCell_3 ?_
  refine j_iconst hX dX12_isCell_6 ⟨by decide, by decide⟩ ?_
  refine j_isub hX dX12_isCell_7 (by omega) ?_
  refine j_pSI3 hX hG lk_X12_172 (ok_X12_isIn ) (Nat.le_of_ble_eq_true rfl) (Nat.le_of_ble_eq_true rfl) (Nat.le_of_ble_eq_true rfl) rfl dX12_isCell_8 ?_
  exact j_retZ hR dX12_isCell_11 (by omega) ⟨by split <;> split <;> first | rfl | omega, rfl⟩
set_option maxHeartbeats 4000000 in
theorem ok_X12_cell {V : VV} {k : Int} (hnm : 1 ≤ V 55 5 ∧ V 55 5 ≤ 16) : Ok NA yX12_cell cX12_cell 2 (some .int) 2 43 [vA 55, vI k] V (pI (fun x9 V' => ((0 ≤ k ∧ k < V 55 5) ∧ x9 = V 59 k ∧ V' = up V 55 0 0) ∨ (¬ (0 ≤ k ∧ k < V 55 5) ∧ x9 = 0 ∧ V' = up (up V 55 0 0) 55 0 1))) := by
  refine Ok.intro (by decide +kernel) (Nat.le_of_ble_eq_true rfl) (fun X G hX hG hR hoa hoV => ?_)
  show J X G 0 [vA 55, vI k] [] V
  refine j_al0 hX dX12_cell_0 rfl ?_
  refine j_iconst hX dX12_cell_1 ⟨by decide, by decide⟩ ?_
  refine j_putI hX hG fp_X12_126 rfl (by decide) dX12_cell_2 ?_
  obtain ⟨U, hU⟩ : ∃ U, U = up V 55 0 0 := ⟨_, rfl⟩
  rw [← hU]
  have u0 : U 55 0 = 0 := by rw [hU]; exact up_s ..
  have uF : ∀ b, b ≠ 0 → U 55 b = V 55 b := fun b hb => by rw [hU]; exact up_n _ (fun q => hb q.2)
  have uC : ∀ a b, a ≠ 55 → U a b = V a b := fun a b ha => by rw [hU]; exact up_n _ (fun q => ha q.1)
  have e5 := uF 5 (by decide)
  refine j_al0 hX dX12_cell_5 rfl ?_
  refine j_al0 hX dX12_cell_6 rfl ?_
  refine j_il1 hX dX12_cell_7 ?_
  refine j_pVI1 (ci := 12) hX hG lk_X12_400 (ok_X12_isCell (by omega)) (by decide) rfl (Nat.le_of_ble_eq_true rfl) (Nat.le_of_ble_eq_true rfl) (Nat.le_of_ble_eq_true rfl) rfl dX12_cell_8 ?_
  refine j_iconst hX dX12_cell_11 ⟨by decide, by decide⟩ ?_
  refine j_cVI2 (ci := 12) hX hG lk_X12_168 (ok_X12_may u0 (by decide)) (by decide) rfl (Nat.le_of_ble_eq_true rfl) (Nat.le_of_ble_eq_true rfl) (Nat.le_of_ble_eq_true rfl) rfl dX12_cell_12 (fun x_12 V_12 h_12 => ?_)
  skip
  refine j_if_eq (tgt := 27) hX dX12_cell_15 (by decide) (fun h_15 => ?_) (fun h_15 => ?_)
  · skip
    obtain ⟨c_12, -, w_12⟩ := h_12.elim (fun q => absurd q.2.1 (by omega)) id
    refine j_iconst hX dX12_cell_27 ⟨by decide, by decide⟩ ?_
    exact j_retI hR dX12_cell_28 (by first | exact Or.inl ⟨by omega, uC 59 k (by decide), hU⟩ | exact Or.inr ⟨fun z => by rw [if_pos (by omega)] at c_12; exact absurd c_12 (by decide), rfl, by rw [w_12, hU]⟩)
  · skip
    obtain ⟨c_12, -, w_12⟩ := h_12.elim id (fun q => absurd q.2.1 (by omega))
    have w2_12 := w_12.symm
    subst w2_12
    have c9 : 0 ≤ k ∧ k < U 55 5 := Classical.byContradiction fun z => c_12 (if_neg z)
    refine j_al0 hX dX12_cell_18 rfl ?_
    refine j_getR (q := 59) hX hG fl_X12_19 rfl rfl (by decide) dX12_cell_19 ?_
    refine j_il1 hX dX12_cell_22 ?_
    refine j_iald (n := 16) hX hG (by decide) (by omega) dX12_cell_23 ?_
    refine j_goto (tgt := 28) hX dX12_cell_24 (by decide) ?_
    exact j_retI hR dX12_cell_28 (by first | exact Or.inl ⟨by omega, uC 59 k (by decide), hU⟩ | exact Or.inr ⟨fun z => by rw [if_pos (by omega)] at c_12; exact absurd c_12 (by decide), rfl, by rw [w_12, hU]⟩)
set_option maxHeartbeats 4000000 in
theorem ok_X12_totalNow {V : VV} {q : Nat} (hmg : MG V q) (hnm : 1 ≤ V 55 5 ∧ V 55 5 ≤ 16) (hrm : ∀ k, 0 ≤ k → k < V 55 5 → 0 ≤ V 59 k ∧ V 59 k < gO q) : Ok NA yX12_totalNow cX12_totalNow 3 (some .int) 1 22 [vA 55] V (pI (fun x9 V' => x9 = prodF q (V 59) (V 55 5).toNat ∧ V' = V)) := by
  refine Ok.intro (by decide +kernel) (Nat.le_of_ble_eq_true rfl) (fun X G hX hG hR hoa hoV => ?_)
  show J X G 0 [vA 55, vU, vU] [] V
  have hq9 := hmg.1
  have hq6 := gO_le hq9
  have e9 : V 55 1 = gO q := hmg.2.1
  refine j_iconst hX dX12_totalNow_0 ⟨by decide, by decide⟩ ?_
  refine j_is1 hX dX12_totalNow_1 rfl ?_
  refine j_iconst hX dX12_totalNow_2 ⟨by decide, by decide⟩ ?_
  refine j_is2 hX dX12_totalNow_3 rfl ?_
  have lp_4 : ∀ (f9 : Nat) (p k : Int), (0 ≤ k ∧ k ≤ V 55 5) → (p = prodF q (V 59) k.toNat) → ((V 55 5 - k).toNat) < f9 → J X G 4 [vA 55, vI p, vI k] [] V := by
    intro f9
    induction f9 with
    | zero => intro p k _ _ hm; exact absurd hm (Nat.not_lt_zero _)
    | succ f9 ih_4 =>
      intro p k hk hp hm
      refine j_il2 hX dX12_totalNow_4 ?_
      refine j_al0 hX dX12_totalNow_5 rfl ?_
      refine j_getI hX hG fl_X12_142 (Or.inl rfl) (by decide) dX12_totalNow_6 ?_
      refine j_icmp_ge (tgt := 30) hX dX12_totalNow_9 (by decide) (fun h_9 => ?_) (fun h_9 => ?_)
      · skip
        refine j_il1 hX dX12_totalNow_30 ?_
        exact j_retI hR dX12_totalNow_31 ⟨by rw [hp, show k = V 55 5 by omega], rfl⟩
      · skip
        have pb := prodF_b (R := V 59) hq9 k.toNat (fun j j0 j1 => hrm j j0 (by omega))
        have rb := hrm k hk.1 (by omega)
        refine j_al0 hX dX12_totalNow_12 rfl ?_
        refine j_il1 hX dX12_totalNow_13 ?_
        refine j_al0 hX dX12_totalNow_14 rfl ?_
        refine j_getR (q := 59) hX hG fl_X12_19 rfl rfl (by decide) dX12_totalNow_15 ?_
        refine j_il2 hX dX12_totalNow_18 ?_
        refine j_iald (n := 16) hX hG (by decide) (by omega) dX12_totalNow_19 ?_
        refine j_pVI2 (ci := 12) hX hG lk_X12_293 (ok_X12_times (by first | assumption | omega | decide) (by omega) rb) (by decide) rfl (Nat.le_of_ble_eq_true rfl) (Nat.le_of_ble_eq_true rfl) (Nat.le_of_ble_eq_true rfl) rfl dX12_totalNow_20 ?_
        refine j_is1 hX dX12_totalNow_23 rfl ?_
        refine j_inc2 hX dX12_totalNow_24 rfl (by omega) ?_
        refine j_goto (tgt := 4) hX dX12_totalNow_27 (by decide) ?_
        exact ih_4 _ _ (by omega) (by rw [prodF_S hk.1, hp]) (by omega)
  exact lp_4 _ _ _ (by omega) rfl (Nat.lt_succ_self _)
set_option maxHeartbeats 4000000 in
theorem ok_X12_total {V : VV} {q : Nat} (hmg : MG V q) (hnm : 1 ≤ V 55 5 ∧ V 55 5 ≤ 16) (hrm : ∀ k, 0 ≤ k → k < V 55 5 → 0 ≤ V 59 k ∧ V 59 k < gO q) : Ok NA yX12_total cX12_total 1 (some .int) 2 44 [vA 55] V (pI (fun x9 V' => x9 = prodF q (V 59) (V 55 5).toNat ∧ V' = up V 55 0 0)) := by
  refine Ok.intro (by decide +kernel) (Nat.le_of_ble_eq_true rfl) (fun X G hX hG hR hoa hoV => ?_)
  show J X G 0 [vA 55] [] V
  have hq9 := hmg.1
  have hq6 := gO_le hq9
  have e9 : V 55 1 = gO q := hmg.2.1
  refine j_al0 hX dX12_total_0 rfl ?_
  refine j_iconst hX dX12_total_1 ⟨by decide, by decide⟩ ?_
  refine j_putI hX hG fp_X12_126 rfl (by decide) dX12_total_2 ?_
  obtain ⟨U, hU⟩ : ∃ U, U = up V 55 0 0 := ⟨_, rfl⟩
  rw [← hU]
  have u0 : U 55 0 = 0 := by rw [hU]; exact up_s ..
  have uF : ∀ b, b ≠ 0 → U 55 b = V 55 b := fun b hb => by rw [hU]; exact up_n _ (fun q => hb q.2)
  have uC : ∀ a b, a ≠ 55 → U a b = V a b := fun a b ha => by rw [hU]; exact up_n _ (fun q => ha q.1)
  have mgU : MG U q := hmg.t uF uC
  have e8 : U 55 1 = gO q := (uF 1 (by decide)).trans e9
  have e5 := uF 5 (by decide)
  have e59 : U 59 = V 59 := funext fun b => uC 59 b (by decide)
  refine j_al0 hX dX12_total_5 rfl ?_
  refine j_pVI0 (ci := 12) hX hG lk_X12_403 (ok_X12_totalNow mgU (by omega) (fun k k0 k1 => by rw [e59]; exact hrm k k0 (by omega))) (by decide) rfl (Nat.le_of_ble_eq_true rfl) (Nat.le_of_ble_eq_true rfl) (Nat.le_of_ble_eq_true rfl) rfl dX12_total_6 ?_
  exact j_retI hR dX12_total_9 ⟨by rw [e59, e5], hU⟩
set_option maxHeartbeats 4000000 in
theorem ok_X12_density {V : VV} (hnm : 1 ≤ V 55 5 ∧ V 55 5 ≤ 16) : Ok NA yX12_density cX12_density 3 (some .double) 0 0 [vA 55] V (pD (fun x9 V' => x9 = 32 * cntI (fun k => V 59 k != 0) (V 55 5).toNat + V 55 5 ∧ V' = up V 55 0 0)) := by
  refine Ok.intro (by decide +kernel) (Nat.le_of_ble_eq_true rfl) (fun X G hX hG hR hoa hoV => ?_)
  show J X G 0 [vA 55, vU, vU] [] V
  refine j_al0 hX dX12_density_0 rfl ?_
  refine j_iconst hX dX12_density_1 ⟨by decide, by decide⟩ ?_
  refine j_putI hX hG fp_X12_126 rfl (by decide) dX12_density_2 ?_
  obtain ⟨U, hU⟩ : ∃ U, U = up V 55 0 0 := ⟨_, rfl⟩
  rw [← hU]
  have u0 : U 55 0 = 0 := by rw [hU]; exact up_s ..
  have uF : ∀ b, b ≠ 0 → U 55 b = V 55 b := fun b hb => by rw [hU]; exact up_n _ (fun q => hb q.2)
  have uC : ∀ a b, a ≠ 55 → U a b = V a b := fun a b ha => by rw [hU]; exact up_n _ (fun q => ha q.1)
  have e5 := uF 5 (by decide)
  refine j_iconst hX dX12_density_5 ⟨by decide, by decide⟩ ?_
  refine j_is1 hX dX12_density_6 rfl ?_
  refine j_iconst hX dX12_density_7 ⟨by decide, by decide⟩ ?_
  refine j_is2 hX dX12_density_8 rfl ?_
  have lp_9 : ∀ (f9 : Nat) (c k : Int), (0 ≤ k ∧ k ≤ V 55 5) → (c = cntI (fun k => V 59 k != 0) k.toNat) → ((V 55 5 - k).toNat) < f9 → J X G 9 [vA 55, vI c, vI k] [] U := by
    intro f9
    induction f9 with
    | zero => intro c k _ _ hm; exact absurd hm (Nat.not_lt_zero _)
    | succ f9 ih_9 =>
      intro c k hk hc hm
      refine j_il2 hX dX12_density_9 ?_
      refine j_al0 hX dX12_density_10 rfl ?_
      refine j_getI hX hG fl_X12_142 (Or.inl rfl) (by decide) dX12_density_11 ?_
      refine j_icmp_ge (tgt := 40) hX dX12_density_14 (by decide) (fun h_14 => ?_) (fun h_14 => ?_)
      · skip
        have hcb := cntI_b (fun k => V 59 k != 0) k.toNat
        refine j_il1 hX dX12_density_40 ?_
        refine j_i2d hX dX12_density_41 (by omega) ?_
        refine j_al0 hX dX12_density_42 rfl ?_
        refine j_getI hX hG fl_X12_142 (Or.inl rfl) (by decide) dX12_density_43 ?_
        refine j_i2d hX dX12_density_46 (by omega) ?_
        refine j_ddiv hX dX12_density_47 (by omega) ?_
        exact j_retD hR dX12_density_48 ⟨by rw [hc, show k = V 55 5 by omega, e5], hU⟩
      · skip
        have hcb := cntI_b (fun k => V 59 k != 0) k.toNat
        refine j_il1 hX dX12_density_17 ?_
        refine j_al0 hX dX12_density_18 rfl ?_
        refine j_getR (q := 59) hX hG fl_X12_19 rfl rfl (by decide) dX12_density_19 ?_
        refine j_il2 hX dX12_density_22 ?_
        refine j_iald (n := 16) hX hG (by decide) (by omega) dX12_density_23 ?_
        refine j_if_eq (tgt := 31) hX dX12_density_24 (by decide) (fun h_24 => ?_) (fun h_24 => ?_)
        · skip
          refine j_iconst hX dX12_density_31 ⟨by decide, by decide⟩ ?_
          refine j_iadd hX dX12_density_32 (by omega) ?_
          refine j_is1 hX dX12_density_33 rfl ?_
          refine j_inc2 hX dX12_density_34 rfl (by omega) ?_
          refine j_goto (tgt := 9) hX dX12_density_37 (by decide) ?_
          exact ih_9 _ _ (by omega) (by rw [cntI_S hk.1, ← hc, ← uC 59 k (by decide)]; first | rw [if_pos (by simpa using h_24)] | rw [if_neg (by simpa using h_24)]) (by omega)
        · skip
          refine j_iconst hX dX12_density_27 ⟨by decide, by decide⟩ ?_
          refine j_goto (tgt := 32) hX dX12_density_28 (by decide) ?_
          refine j_iadd hX dX12_density_32 (by omega) ?_
          refine j_is1 hX dX12_density_33 rfl ?_
          refine j_inc2 hX dX12_density_34 rfl (by omega) ?_
          refine j_goto (tgt := 9) hX dX12_density_37 (by decide) ?_
          exact ih_9 _ _ (by omega) (by rw [cntI_S hk.1, ← hc, ← uC 59 k (by decide)]; first | rw [if_pos (by simpa using h_24)] | rw [if_neg (by simpa using h_24)]) (by omega)
  exact lp_9 _ _ _ (by omega) rfl (Nat.lt_succ_self _)
