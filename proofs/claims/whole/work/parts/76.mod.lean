theorem fr_up {l : List Int} {U W : VV} {k j x : Int} (h : fr l U W) : fr l (up U k j x) (up W k j x) := fun a b ha => by unfold up; rw [h a b ha]
theorem CLO_c {U V : VV} (h : U 58 = V 58) (h1 : U 55 1 = V 55 1) (h4 : U 55 4 = V 55 4) : CLO U = CLO V := by unfold CLO; rw [h, h1, h4]
theorem CLB_c {U V : VV} (h : U 58 = V 58) (h1 : U 55 1 = V 55 1) (h4 : U 55 4 = V 55 4) : CLB U = CLB V := by unfold CLB; rw [h, h1, h4]
theorem inj_yes {V W : VV} (ho : MO V) (h1 : ∀ B, CLO V B → ∀ p, B p → W 71 p = 1) (h2 : ∀ B, CLB V B → ∀ p, B p → W 72 p = 1) (hn : ∀ p, 0 ≤ p → p < V 55 4 * V 55 4 → p / V 55 4 = p % V 55 4 ∨ W 71 p = 0 ∨ W 72 p = 0) : APT (V 58) (V 55 1) (V 55 4) (V 55 3) := fun B hB a b hab => by
  have key : ∀ a b, B a b → ∃ p, (0 ≤ p ∧ p < V 55 4 * V 55 4) ∧ p / V 55 4 = a ∧ p % V 55 4 = b := fun a b h => by
    obtain ⟨⟨a', b', -, q⟩, -⟩ := hB a b h
    obtain ⟨x, y, x1, y1, p1, p2, p3, -⟩ := pst_go ho q
    exact ⟨_, p1, p2, p3⟩
  have c1 : CLO V (fun p => (0 ≤ p ∧ p < V 55 4 * V 55 4) ∧ B (p / V 55 4) (p % V 55 4)) := fun p hp => by
    refine ⟨hp.1, ?_⟩
    obtain ⟨⟨a', b', hb, q⟩, -⟩ := hB _ _ hp.2
    obtain ⟨x, y, x1, y1, p1, p2, p3, p4, p5, p6, p7, p8⟩ := pst_go ho q
    rw [(pdm ho hp.1).2.2] at p4
    exact ⟨x, y, x1, y1, by rw [p4]; omega, by rw [p4]; exact ⟨p5, by rw [p6, p7]; exact hb⟩⟩
  have c2 : CLB V (fun p => (0 ≤ p ∧ p < V 55 4 * V 55 4) ∧ B (p / V 55 4) (p % V 55 4)) := fun p hp => by
    refine ⟨hp.1, ?_⟩
    obtain ⟨-, a', b', hb, q⟩ := hB _ _ hp.2
    obtain ⟨x, y, x1, y1, p1, p2, p3, p4, p5, p6, p7, p8⟩ := pst_go ho q
    rw [(pdm ho hp.1).2.2] at p4
    exact ⟨_, x, y, p1, x1, y1, p4, p1, by rw [p2, p3]; exact hb⟩
  obtain ⟨p, pr, e1, e2⟩ := key a b hab
  have r1 := h1 _ c1 p ⟨pr, by rw [e1, e2]; exact hab⟩
  have r2 := h2 _ c2 p ⟨pr, by rw [e1, e2]; exact hab⟩
  rcases hn p pr.1 pr.2 with z | z | z
  · rw [← e1, ← e2]; exact z
  · omega
  · omega
/-- the pairs that are met on an endless way forth, and back, from one -/
def FWq (V W : VV) (p : Int) : Nat → Int → Prop
  | 0, q => q = p
  | k + 1, q => ((0 ≤ q ∧ q < V 55 4 * V 55 4) ∧ W 71 q ≠ 0) ∧ ∃ r x y, FWq V W p k r ∧ (0 ≤ x ∧ x < V 55 1) ∧ (0 ≤ y ∧ y < V 55 1) ∧ goF (V 58) (V 55 1) (V 55 4) r x y = q
def BWq (V W : VV) (p : Int) : Nat → Int → Prop
  | 0, q => q = p
  | k + 1, q => ((0 ≤ q ∧ q < V 55 4 * V 55 4) ∧ W 72 q ≠ 0) ∧ ∃ r x y, BWq V W p k r ∧ (0 ≤ x ∧ x < V 55 1) ∧ (0 ≤ y ∧ y < V 55 1) ∧ goF (V 58) (V 55 1) (V 55 4) q x y = r
theorem inj_no {V W : VV} {p : Int} (ho : MO V) (hp : 0 ≤ p ∧ p < V 55 4 * V 55 4) (hn : ¬ p / V 55 4 = p % V 55 4) (h1 : ¬ W 71 p = 0) (h2 : ¬ W 72 p = 0) (hx : ∀ p, 0 ≤ p → p < V 55 4 * V 55 4 → W 71 p ≠ 0 → NXT V W p) (hv : ∀ p, 0 ≤ p → p < V 55 4 * V 55 4 → W 72 p ≠ 0 → PRV V W p) : ¬ APT (V 58) (V 55 1) (V 55 4) (V 55 3) := fun hA => by
  have fI : ∀ k q, FWq V W p k q → (0 ≤ q ∧ q < V 55 4 * V 55 4) ∧ W 71 q ≠ 0 := fun k q h => by
    cases k with
    | zero => have e : q = p := h; rw [e]; exact ⟨hp, h1⟩
    | succ k => exact h.1
  have bI : ∀ k q, BWq V W p k q → (0 ≤ q ∧ q < V 55 4 * V 55 4) ∧ W 72 q ≠ 0 := fun k q h => by
    cases k with
    | zero => have e : q = p := h; rw [e]; exact ⟨hp, h2⟩
    | succ k => exact h.1
  have fN : ∀ k q, FWq V W p k q → ∃ q' x y, FWq V W p (k + 1) q' ∧ (0 ≤ x ∧ x < V 55 1) ∧ (0 ≤ y ∧ y < V 55 1) ∧ goF (V 58) (V 55 1) (V 55 4) q x y = q' := fun k q h => by
    have i := fI k q h
    obtain ⟨x, y, a, b, c, d⟩ := hx q i.1.1 i.1.2 i.2
    exact ⟨_, x, y, ⟨⟨gof_r ho i.1 a b c, d⟩, q, x, y, h, a, b, rfl⟩, a, b, rfl⟩
  have bN : ∀ k q, BWq V W p k q → ∃ q' x y, BWq V W p (k + 1) q' ∧ (0 ≤ x ∧ x < V 55 1) ∧ (0 ≤ y ∧ y < V 55 1) ∧ goF (V 58) (V 55 1) (V 55 4) q' x y = q := fun k q h => by
    have i := bI k q h
    obtain ⟨q', x, y, a, b, c, d, e⟩ := hv q i.1.1 i.1.2 i.2
    exact ⟨q', x, y, ⟨⟨a, e⟩, q, x, y, h, b, c, d⟩, b, c, d⟩
  have st : ∀ q x y q', (0 ≤ q ∧ q < V 55 4 * V 55 4) → (0 ≤ q' ∧ q' < V 55 4 * V 55 4) → (0 ≤ x ∧ x < V 55 1) → (0 ≤ y ∧ y < V 55 1) → goF (V 58) (V 55 1) (V 55 4) q x y = q' → pst (V 58) (V 55 1) (V 55 4) (V 55 3) (q / V 55 4) (q % V 55 4) (q' / V 55 4) (q' % V 55 4) := fun q x y q' a b c d e => by
    have := go_pst ho a c d (by rw [e]; omega)
    rw [e] at this
    exact this
  refine hn (hA (fun a b => ∃ q, (∃ k, FWq V W p k q ∨ BWq V W p k q) ∧ q / V 55 4 = a ∧ q % V 55 4 = b) ?_ _ _ ⟨p, ⟨0, Or.inl rfl⟩, rfl, rfl⟩)
  rintro a b ⟨q, ⟨k, hq⟩, rfl, rfl⟩
  rcases hq with hq | hq
  · have i := fI k q hq
    obtain ⟨q', x, y, c, d, e, f⟩ := fN k q hq
    refine ⟨⟨_, _, ⟨q', ⟨k + 1, Or.inl c⟩, rfl, rfl⟩, st q x y q' i.1 (fI _ _ c).1 d e f⟩, ?_⟩
    cases k with
    | zero =>
      have e0 : q = p := hq
      have hq2 : BWq V W p 0 q := e0
      obtain ⟨q2, x2, y2, c2, d2, e2, f2⟩ := bN 0 q hq2
      exact ⟨_, _, ⟨q2, ⟨0 + 1, Or.inr c2⟩, rfl, rfl⟩, st q2 x2 y2 q (bI _ _ c2).1 i.1 d2 e2 f2⟩
    | succ k =>
      obtain ⟨-, r, x2, y2, c2, d2, e2, f2⟩ := hq
      exact ⟨_, _, ⟨r, ⟨k, Or.inl c2⟩, rfl, rfl⟩, st r x2 y2 q (fI _ _ c2).1 i.1 d2 e2 f2⟩
  · have i := bI k q hq
    obtain ⟨q', x, y, c, d, e, f⟩ := bN k q hq
    refine ⟨?_, ⟨_, _, ⟨q', ⟨k + 1, Or.inr c⟩, rfl, rfl⟩, st q' x y q (bI _ _ c).1 i.1 d e f⟩⟩
    cases k with
    | zero =>
      have e0 : q = p := hq
      have hq2 : FWq V W p 0 q := e0
      obtain ⟨q2, x2, y2, c2, d2, e2, f2⟩ := fN 0 q hq2
      exact ⟨_, _, ⟨q2, ⟨0 + 1, Or.inl c2⟩, rfl, rfl⟩, st q x2 y2 q2 i.1 (fI _ _ c2).1 d2 e2 f2⟩
    | succ k =>
      obtain ⟨-, r, x2, y2, c2, d2, e2, f2⟩ := hq
      exact ⟨_, _, ⟨r, ⟨k, Or.inr c2⟩, rfl, rfl⟩, st q x2 y2 r i.1 (bI _ _ c2).1 d2 e2 f2⟩
set_option maxHeartbeats 4000000 in
theorem ok_X12_isSurjective {V : VV} (hmo : MO V) : Ok NA yX12_isSurjective cX12_isSurjective 1 (some .boolean) 2 49 [vA 55] V (pI (fun x9 V' => (∃ s, DI (V 58) (V 55 1) (V 55 4) (V 55 3) s ∧ x9 = if s = 0 then 1 else 0) ∧ fr [69, 70] (up V 55 0 0) V')) := by
  refine Ok.intro (by decide +kernel) (Nat.le_of_ble_eq_true rfl) (fun X G hX hG hR hoa hoV => ?_)
  show J X G 0 [vA 55] [] V
  refine j_al0 hX dX12_isSurjective_0 rfl ?_
  refine j_iconst hX dX12_isSurjective_1 ⟨by decide, by decide⟩ ?_
  refine j_putI hX hG fp_X12_126 rfl (by decide) dX12_isSurjective_2 ?_
  obtain ⟨U, hU⟩ : ∃ U, U = up V 55 0 0 := ⟨_, rfl⟩
  rw [← hU]
  have u0 : U 55 0 = 0 := by rw [hU]; exact up_s ..
  have uF : ∀ b, b ≠ 0 → U 55 b = V 55 b := fun b hb => by rw [hU]; exact up_n _ (fun q => hb q.2)
  have uC : ∀ a b, a ≠ 55 → U a b = V a b := fun a b ha => by rw [hU]; exact up_n _ (fun q => ha q.1)
  have moU : MO U := hmo.t uF
  have e58 : U 58 = V 58 := funext fun b => uC 58 b (by decide)
  have e1 := uF 1 (by decide)
  have e3 := uF 3 (by decide)
  have e4 := uF 4 (by decide)
  refine j_al0 hX dX12_isSurjective_5 rfl ?_
  refine j_cVI0 (ci := 12) hX hG lk_X12_337 (ok_X12_shortest moU) (by decide) rfl (Nat.le_of_ble_eq_true rfl) (Nat.le_of_ble_eq_true rfl) (Nat.le_of_ble_eq_true rfl) rfl dX12_isSurjective_6 (fun x_6 V_6 h_6 => ?_)
  obtain ⟨d_6, f_6⟩ := h_6
  rw [e58, e1, e3, e4] at d_6
  refine j_iconst hX dX12_isSurjective_9 ⟨by decide, by decide⟩ ?_
  refine j_icmp_ne (tgt := 17) hX dX12_isSurjective_10 (by decide) (fun h_10 => ?_) (fun h_10 => ?_)
  · skip
    refine j_iconst hX dX12_isSurjective_17 ⟨by decide, by decide⟩ ?_
    exact j_retZ hR dX12_isSurjective_18 (by omega) (by
      rw [hU] at f_6
      rcases d_6 with ⟨a, b⟩ | ⟨a, b⟩
      · exact ⟨⟨0, b, by first | rfl | (exfalso; omega)⟩, f_6⟩
      · exact ⟨⟨x_6, b, by first | (rw [if_neg (by omega)]; done) | exact (if_neg (by omega)).symm | (exfalso; omega)⟩, f_6⟩)
  · skip
    refine j_iconst hX dX12_isSurjective_13 ⟨by decide, by decide⟩ ?_
    refine j_goto (tgt := 18) hX dX12_isSurjective_14 (by decide) ?_
    exact j_retZ hR dX12_isSurjective_18 (by omega) (by
      rw [hU] at f_6
      rcases d_6 with ⟨a, b⟩ | ⟨a, b⟩
      · exact ⟨⟨0, b, by first | rfl | (exfalso; omega)⟩, f_6⟩
      · exact ⟨⟨x_6, b, by first | (rw [if_neg (by omega)]; done) | exact (if_neg (by omega)).symm | (exfalso; omega)⟩, f_6⟩)
set_option maxHeartbeats 4000000 in
theorem ok_X12_diamond {V : VV} (hmo : MO V) : Ok NA yX12_diamond cX12_diamond 2 (some .int) 2 49 [vA 55] V (pI (fun x9 V' => ∃ s, DI (V 58) (V 55 1) (V 55 4) (V 55 3) s ∧ ((s ≠ 0 ∧ x9 = s ∧ fr [69, 70] (up V 55 0 0) V') ∨ (s = 0 ∧ x9 = 0 ∧ fr [69, 70] (up (up V 55 0 0) 55 0 1) V')))) := by
  refine Ok.intro (by decide +kernel) (Nat.le_of_ble_eq_true rfl) (fun X G hX hG hR hoa hoV => ?_)
  show J X G 0 [vA 55, vU] [] V
  refine j_al0 hX dX12_diamond_0 rfl ?_
  refine j_iconst hX dX12_diamond_1 ⟨by decide, by decide⟩ ?_
  refine j_putI hX hG fp_X12_126 rfl (by decide) dX12_diamond_2 ?_
  obtain ⟨U, hU⟩ : ∃ U, U = up V 55 0 0 := ⟨_, rfl⟩
  rw [← hU]
  have u0 : U 55 0 = 0 := by rw [hU]; exact up_s ..
  have uF : ∀ b, b ≠ 0 → U 55 b = V 55 b := fun b hb => by rw [hU]; exact up_n _ (fun q => hb q.2)
  have uC : ∀ a b, a ≠ 55 → U a b = V a b := fun a b ha => by rw [hU]; exact up_n _ (fun q => ha q.1)
  have moU : MO U := hmo.t uF
  have e58 : U 58 = V 58 := funext fun b => uC 58 b (by decide)
  have e1 := uF 1 (by decide)
  have e3 := uF 3 (by decide)
  have e4 := uF 4 (by decide)
  refine j_al0 hX dX12_diamond_5 rfl ?_
  refine j_cVI0 (ci := 12) hX hG lk_X12_337 (ok_X12_shortest moU) (by decide) rfl (Nat.le_of_ble_eq_true rfl) (Nat.le_of_ble_eq_true rfl) (Nat.le_of_ble_eq_true rfl) rfl dX12_diamond_6 (fun x_6 V_6 h_6 => ?_)
  obtain ⟨d_6, f_6⟩ := h_6
  rw [e58, e1, e3, e4] at d_6
  have v0 : V_6 55 0 = 0 := (f_6 55 0 (by decide)).trans u0
  refine j_is1 hX dX12_diamond_9 rfl ?_
  have jn_21 : ∀ (z : Int), (z = if x_6 ≠ -1 then 1 else 0) → J X G 21 [vA 55, vI x_6] [vI z, vA 55] V_6 := by
    intro z hz9
    refine j_iconst hX dX12_diamond_21 ⟨by decide, by decide⟩ ?_
    refine j_cVI2 (ci := 12) hX hG lk_X12_168 (ok_X12_may v0 (by decide)) (by decide) rfl (Nat.le_of_ble_eq_true rfl) (Nat.le_of_ble_eq_true rfl) (Nat.le_of_ble_eq_true rfl) rfl dX12_diamond_22 (fun x_22 V_22 h_22 => ?_)
    skip
    have jn_33 : ∀ (x9 : Int) (W9 : VV), ((x_6 ≠ -1 ∧ x9 = x_6 ∧ W9 = V_6) ∨ (x_6 = -1 ∧ x9 = 0 ∧ W9 = up V_6 55 0 1)) → J X G 33 [vA 55, vI x_6] [vI x9] W9 := by
      intro x9 W9 hz8
      exact j_retI hR dX12_diamond_33 (by
      rw [hU] at f_6
      rcases hz8 with ⟨a, b, c⟩ | ⟨a, b, c⟩
      · rcases d_6 with ⟨d, e⟩ | ⟨d, e⟩
        · exact absurd d a
        · rw [b, c]; exact ⟨x_6, e, Or.inl ⟨by omega, rfl, f_6⟩⟩
      · rcases d_6 with ⟨d, e⟩ | ⟨d, e⟩
        · rw [b, c]; exact ⟨0, e, Or.inr ⟨rfl, rfl, fr_up f_6⟩⟩
        · omega)
    refine j_if_eq (tgt := 32) hX dX12_diamond_25 (by decide) (fun h_25 => ?_) (fun h_25 => ?_)
    · skip
      obtain ⟨c_22, -, w_22⟩ := h_22.elim (fun q => absurd q.2.1 (by omega)) id
      have c9 : x_6 = -1 := Classical.byContradiction fun q => by rw [hz9, if_pos q] at c_22; exact absurd c_22 (by decide)
      refine j_iconst hX dX12_diamond_32 ⟨by decide, by decide⟩ ?_
      exact jn_33 _ _ (by first | exact Or.inl ⟨c9, rfl, rfl⟩ | exact Or.inr ⟨c9, rfl, w_22⟩)
    · skip
      obtain ⟨c_22, -, w_22⟩ := h_22.elim id (fun q => absurd q.2.1 (by omega))
      have w2_22 := w_22.symm
      subst w2_22
      have c9 : x_6 ≠ -1 := Classical.byContradiction fun q => c_22 (by rw [hz9, if_neg q])
      refine j_il1 hX dX12_diamond_28 ?_
      refine j_goto (tgt := 33) hX dX12_diamond_29 (by decide) ?_
      exact jn_33 _ _ (by first | exact Or.inl ⟨c9, rfl, rfl⟩ | exact Or.inr ⟨c9, rfl, w_22⟩)
  refine j_al0 hX dX12_diamond_10 rfl ?_
  refine j_il1 hX dX12_diamond_11 ?_
  refine j_iconst hX dX12_diamond_12 ⟨by decide, by decide⟩ ?_
  refine j_icmp_eq (tgt := 20) hX dX12_diamond_13 (by decide) (fun h_13 => ?_) (fun h_13 => ?_)
  · skip
    refine j_iconst hX dX12_diamond_20 ⟨by decide, by decide⟩ ?_
    exact jn_21 _ (by first | exact (if_pos (by omega)).symm | exact (if_neg (by omega)).symm)
  · skip
    refine j_iconst hX dX12_diamond_16 ⟨by decide, by decide⟩ ?_
    refine j_goto (tgt := 21) hX dX12_diamond_17 (by decide) ?_
    exact jn_21 _ (by first | exact (if_pos (by omega)).symm | exact (if_neg (by omega)).symm)
set_option maxHeartbeats 4000000 in
theorem ok_X12_isInjective {V : VV} (hmo : MO V) : Ok NA yX12_isInjective cX12_isInjective 2 (some .boolean) 3 70 [vA 55] V (pI (fun x9 V' => ((x9 = 1 ∧ APT (V 58) (V 55 1) (V 55 4) (V 55 3)) ∨ (x9 = 0 ∧ ¬ APT (V 58) (V 55 1) (V 55 4) (V 55 3))) ∧ fr [69, 71, 72] (up V 55 0 0) V')) := by
  refine Ok.intro (by decide +kernel) (Nat.le_of_ble_eq_true rfl) (fun X G hX hG hR hoa hoV => ?_)
  show J X G 0 [vA 55, vU] [] V
  refine j_al0 hX dX12_isInjective_0 rfl ?_
  refine j_iconst hX dX12_isInjective_1 ⟨by decide, by decide⟩ ?_
  refine j_putI hX hG fp_X12_126 rfl (by decide) dX12_isInjective_2 ?_
  obtain ⟨U, hU⟩ : ∃ U, U = up V 55 0 0 := ⟨_, rfl⟩
  rw [← hU]
  have u0 : U 55 0 = 0 := by rw [hU]; exact up_s ..
  have uF : ∀ b, b ≠ 0 → U 55 b = V 55 b := fun b hb => by rw [hU]; exact up_n _ (fun q => hb q.2)
  have uC : ∀ a b, a ≠ 55 → U a b = V a b := fun a b ha => by rw [hU]; exact up_n _ (fun q => ha q.1)
  have moU : MO U := hmo.t uF
  have e58 : U 58 = V 58 := funext fun b => uC 58 b (by decide)
  have e1 := uF 1 (by decide)
  have e3 := uF 3 (by decide)
  have e4 := uF 4 (by decide)
  refine j_al0 hX dX12_isInjective_5 rfl ?_
  refine j_cVV0 (ci := 12) hX hG lk_X12_343 (ok_X12_laysOn moU) (by decide) rfl (Nat.le_of_ble_eq_true rfl) (Nat.le_of_ble_eq_true rfl) (Nat.le_of_ble_eq_true rfl) rfl dX12_isInjective_6 (fun V_6 h_6 => ?_)
  obtain ⟨m_6, n_6, f_6⟩ := h_6
  have g58 : V_6 58 = V 58 := (funext fun b => f_6 58 b (by decide)).trans e58
  have g1 : V_6 55 1 = V 55 1 := (f_6 55 1 (by decide)).trans e1
  have g4 : V_6 55 4 = V 55 4 := (f_6 55 4 (by decide)).trans e4
  have moW : MO V_6 := moU.t (fun b _ => f_6 55 b (by decide))
  rw [CLO_c (U := U) (V := V) e58 e1 e4] at m_6
  refine j_al0 hX dX12_isInjective_9 rfl ?_
  refine j_cVV0 (ci := 12) hX hG lk_X12_346 (ok_X12_laysCame moW) (by decide) rfl (Nat.le_of_ble_eq_true rfl) (Nat.le_of_ble_eq_true rfl) (Nat.le_of_ble_eq_true rfl) rfl dX12_isInjective_10 (fun V_10 h_10 => ?_)
  obtain ⟨m_10, n_10, f_10⟩ := h_10
  rw [CLB_c (U := V_6) (V := V) g58 g1 g4] at m_10
  have k58 : V_10 58 = V 58 := (funext fun b => f_10 58 b (by decide)).trans g58
  have k1 : V_10 55 1 = V 55 1 := (f_10 55 1 (by decide)).trans g1
  have k4 : V_10 55 4 = V 55 4 := (f_10 55 4 (by decide)).trans g4
  have moX : MO V_10 := moW.t (fun b _ => f_10 55 b (by decide))
  have k71 : V_10 71 = V_6 71 := funext fun b => f_10 71 b (by decide)
  have hb9 := hmo.b
  have nn := n36 hb9.2.2.1
  have n2_6 : ∀ p, 0 ≤ p → p < V 55 4 * V 55 4 → V_10 71 p ≠ 0 → NXT V V_10 p := fun p p0 p1 p2 => by
    rw [k71] at p2
    obtain ⟨x, y, a, b, c, d⟩ := n_6 p p0 (by rw [e4]; exact p1) p2
    rw [e58, e1, e4] at c d
    rw [e1] at a b
    exact ⟨x, y, a, b, c, by rw [k71]; exact d⟩
  have n2_10 : ∀ p, 0 ≤ p → p < V 55 4 * V 55 4 → V_10 72 p ≠ 0 → PRV V V_10 p := fun p p0 p1 p2 => by
    obtain ⟨q, x, y, a, b, c, d, e⟩ := n_10 p p0 (by rw [g4]; exact p1) p2
    rw [g58, g1, g4] at d
    rw [g4] at a
    rw [g1] at b c
    exact ⟨q, x, y, a, b, c, d, e⟩
  have fF : fr [69, 71, 72] (up V 55 0 0) V_10 := by
    rw [hU] at f_6
    exact fr_t (fr_w f_6 (by decide)) (fr_w f_10 (by decide))
  refine j_iconst hX dX12_isInjective_13 ⟨by decide, by decide⟩ ?_
  refine j_is1 hX dX12_isInjective_14 rfl ?_
  have lp_15 : ∀ (f9 : Nat) (p : Int), (0 ≤ p ∧ p ≤ V 55 4 * V 55 4) → (∀ j, 0 ≤ j → j < p → j / V 55 4 = j % V 55 4 ∨ V_10 71 j = 0 ∨ V_10 72 j = 0) → ((V 55 4 * V 55 4 - p).toNat) < f9 → J X G 15 [vA 55, vI p] [] V_10 := by
    intro f9
    induction f9 with
    | zero => intro p _ _ hm; exact absurd hm (Nat.not_lt_zero _)
    | succ f9 ih_15 =>
      intro p hp hTT hm
      refine j_il1 hX dX12_isInjective_15 ?_
      refine j_al0 hX dX12_isInjective_16 rfl ?_
      refine j_getI hX hG fl_X12_145 (Or.inl rfl) (by decide) dX12_isInjective_17 ?_
      refine j_al0 hX dX12_isInjective_20 rfl ?_
      refine j_getI hX hG fl_X12_145 (Or.inl rfl) (by decide) dX12_isInjective_21 ?_
      refine j_eqS (st' := [vI (V 55 4), vI (V 55 4), vI p]) (by rw [k4]) ?_
      refine j_imul hX dX12_isInjective_24 (by omega) ?_
      refine j_icmp_ge (tgt := 62) hX dX12_isInjective_25 (by decide) (fun h_25 => ?_) (fun h_25 => ?_)
      · skip
        refine j_iconst hX dX12_isInjective_62 ⟨by decide, by decide⟩ ?_
        exact j_retZ hR dX12_isInjective_63 (by omega) ⟨Or.inl ⟨rfl, inj_yes hmo (fun B hB p hp => by rw [k71]; exact m_6 B hB p hp) m_10 (fun p p0 p1 => hTT p p0 (by omega))⟩, fF⟩
      · skip
        refine j_al0 hX dX12_isInjective_28 rfl ?_
        refine j_il1 hX dX12_isInjective_29 ?_
        refine j_pVI1 (ci := 12) hX hG lk_X12_331 (ok_X12_isAlike moX (by rw [k4]; omega)) (by decide) rfl (Nat.le_of_ble_eq_true rfl) (Nat.le_of_ble_eq_true rfl) (Nat.le_of_ble_eq_true rfl) rfl dX12_isInjective_30 ?_
        refine j_ifz_ne (tgt := 56) hX dX12_isInjective_33 (by decide) (fun h_33 => ?_) (fun h_33 => ?_)
        · skip
          refine j_inc1 hX dX12_isInjective_56 rfl (by omega) ?_
          refine j_goto (tgt := 15) hX dX12_isInjective_59 (by decide) ?_
          exact ih_15 _ (by omega) (lt_stepI hTT (by first | exact Or.inl (by rw [← k4]; exact h_33) | exact Or.inr (Or.inl h_42) | exact Or.inr (Or.inr h_51))) (by omega)
        · skip
          refine j_al0 hX dX12_isInjective_36 rfl ?_
          refine j_getR (q := 71) hX hG fl_X12_60 rfl rfl (by decide) dX12_isInjective_37 ?_
          refine j_il1 hX dX12_isInjective_40 ?_
          refine j_zald (n := 1296) hX hG (by decide) (by omega) dX12_isInjective_41 ?_
          refine j_if_eq (tgt := 56) hX dX12_isInjective_42 (by decide) (fun h_42 => ?_) (fun h_42 => ?_)
          · skip
            refine j_inc1 hX dX12_isInjective_56 rfl (by omega) ?_
            refine j_goto (tgt := 15) hX dX12_isInjective_59 (by decide) ?_
            exact ih_15 _ (by omega) (lt_stepI hTT (by first | exact Or.inl (by rw [← k4]; exact h_33) | exact Or.inr (Or.inl h_42) | exact Or.inr (Or.inr h_51))) (by omega)
          · skip
            refine j_al0 hX dX12_isInjective_45 rfl ?_
            refine j_getR (q := 72) hX hG fl_X12_63 rfl rfl (by decide) dX12_isInjective_46 ?_
            refine j_il1 hX dX12_isInjective_49 ?_
            refine j_zald (n := 1296) hX hG (by decide) (by omega) dX12_isInjective_50 ?_
            refine j_if_eq (tgt := 56) hX dX12_isInjective_51 (by decide) (fun h_51 => ?_) (fun h_51 => ?_)
            · skip
              refine j_inc1 hX dX12_isInjective_56 rfl (by omega) ?_
              refine j_goto (tgt := 15) hX dX12_isInjective_59 (by decide) ?_
              exact ih_15 _ (by omega) (lt_stepI hTT (by first | exact Or.inl (by rw [← k4]; exact h_33) | exact Or.inr (Or.inl h_42) | exact Or.inr (Or.inr h_51))) (by omega)
            · skip
              refine j_iconst hX dX12_isInjective_54 ⟨by decide, by decide⟩ ?_
              exact j_retZ hR dX12_isInjective_55 (by omega) ⟨Or.inr ⟨rfl, inj_no hmo ⟨hp.1, by omega⟩ (fun q => h_33 (by rw [k4]; exact q)) h_42 h_51 n2_6 n2_10⟩, fF⟩
  exact lp_15 _ _ ⟨by decide, by omega⟩ (fun j j0 j1 => by omega) (Nat.lt_succ_self _)
