theorem ct_13 : Cond.classLink RL 13 exS ∈ Gw := (inT4 35 (by decide +kernel) rfl)
theorem ct_19 : Cond.classLink RL 19 exB ∈ Gw := (inT4 117 (by decide +kernel) rfl)
theorem ct_25 : Cond.classLink RL 25 exA ∈ Gw := (inT4 141 (by decide +kernel) rfl)
theorem ct_51 : Cond.classLink RL 51 exN ∈ Gw := (inT5 191 (by decide +kernel) rfl)
theorem xc_exS {U : State} (h : XW U) (a : Array Value) : (Cond.castable exS exS).before a U = true := h.1 (.castable exS exS) (by simp [XLw]) a
theorem xc_exB {U : State} (h : XW U) (a : Array Value) : (Cond.castable exB exB).before a U = true := h.1 (.castable exB exB) (by simp [XLw]) a
theorem xc_exA {U : State} (h : XW U) (a : Array Value) : (Cond.castable exA exA).before a U = true := h.1 (.castable exA exA) (by simp [XLw]) a
theorem xc_exN {U : State} (h : XW U) (a : Array Value) : (Cond.castable exN exN).before a U = true := h.1 (.castable exN exN) (by simp [XLw]) a
theorem wr_append {V : VV} {p0 p1 p2 p3 p4 : Int} {P : Int → VV → Prop} {XP : String → VV → Prop} {lo9 : Nat} (hlo9 : lo9 ≤ 200) (hc : OkX yX11_append cX11_append 6 (some .int) 8 lo9 [vA 0, vI p0, vI p1, vI p2, vI p3, vI p4] V (pI P) XP) (hx : ∀ E V', XP E V' → E = exS) : OkC yL_append cL_append 8 (some .int) [(0, 16, 19, 13)] 9 300 [vA 0, vI p0, vI p1, vI p2, vI p3, vI p4, vA 87] V (pI (fun k V' => (∃ x V1, P x V1 ∧ V' = up V1 87 0 x ∧ k = 0) ∨ (XP exS V' ∧ k = 1))) := by
  refine OkC.intro (by decide +kernel) (Nat.le_of_ble_eq_true rfl) (fun X G hX hG hR hC hoa hoV => ?_)
  show J X (G.1, G.2.1, 0, 0) 0 [vA 0, vI p0, vI p1, vI p2, vI p3, vI p4, vA 87, vU] [] V
  refine j_al6 hX dL_append_0 rfl ?_
  refine j_iconst hX dL_append_2 ⟨by decide, by decide⟩ ?_
  refine j_al0 hX dL_append_3 rfl ?_
  refine j_il1 hX dL_append_4 ?_
  refine j_il2 hX dL_append_5 ?_
  refine j_il3 hX dL_append_6 ?_
  refine j_il4 hX dL_append_7 ?_
  refine j_il5 hX dL_append_9 ?_
  have hG1 : gOK NA (G16 (G.1, G.2.1, 0, 0)) := hG
  refine j_callX (as := [vI p0, vI p1, vI p2, vI p3, vI p4]) (T := TX11) (N := 15) hX hG hC.1 hC.2.1 lk_L_7 (inT4 36 (by decide +kernel) rfl) hc ⟨by decide, by decide, rfl⟩ rfl rfl (Nat.le_of_ble_eq_true rfl) (by have h9 : 6 ≤ 20 := (by decide); omega) (Nat.le_of_ble_eq_true rfl) rfl ⟨by rw [hC.2.2.2.1]; exact Nat.le_refl _, by rw [hC.2.2.2.2]; exact Nat.le_refl _⟩ dL_append_11 (fun r V1 hp => ?_) (fun E V1 hE => ?_)
  · obtain ⟨x, rfl, hp⟩ := hp
    show J X (G16 (G.1, G.2.1, 0, 0)) 14 [vA 0, vI p0, vI p1, vI p2, vI p3, vI p4, vA 87, vU] [vI x, vI 0, vA 87] V1
    refine j_i2l hX dL_append_14 ?_
    refine j_last (n := 1) hX hG1 ⟨by decide, by decide, rfl, rfl⟩ ⟨by decide, by decide⟩ dL_append_15 ?_
    refine j_goto (tgt := 23) hX dL_append_16 (by decide) ?_
    refine j_iconst hX dL_append_23 ⟨by decide, by decide⟩ ?_
    exact j_retI hR dL_append_24 (Or.inl ⟨x, V1, hp, rfl, rfl⟩)
  · have hE9 := hx E V1 hE
    subst hE9
    · refine ⟨19, ⟨[], ⟨0, 16, 19, 13⟩, [], exS, hC.2.2.1.trans rfl, (fun z hz => by cases hz), by decide, by show (13 : Nat) ≠ 0; decide, hX.ts _ ct_13, xc_exS hC.2.1 _, rfl⟩, fun q => ?_⟩
      refine j_as7 hX dL_append_19 (by show isR (8, (q : Int) + 1) = true; simp [isR]; omega) rfl ?_
      refine j_iconst hX dL_append_21 ⟨by decide, by decide⟩ ?_
      exact j_retI hR dL_append_22 (Or.inr ⟨hE, rfl⟩)
theorem wr_truncate {V : VV} {p0 : Int} {P : Int → VV → Prop} {XP : String → VV → Prop} {lo9 : Nat} (hlo9 : lo9 ≤ 200) (hc : OkX yX11_truncate cX11_truncate 2 (some .int) 8 lo9 [vA 0, vI p0] V (pI P) XP) (hx : ∀ E V', XP E V' → E = exB) : OkC yL_truncate cL_truncate 4 (some .int) [(0, 9, 12, 19)] 9 300 [vA 0, vI p0, vA 87] V (pI (fun k V' => (∃ x V1, P x V1 ∧ V' = up V1 87 0 x ∧ k = 0) ∨ (XP exB V' ∧ k = 1))) := by
  refine OkC.intro (by decide +kernel) (Nat.le_of_ble_eq_true rfl) (fun X G hX hG hR hC hoa hoV => ?_)
  show J X (G.1, G.2.1, 0, 0) 0 [vA 0, vI p0, vA 87, vU] [] V
  refine j_al2 hX dL_truncate_0 rfl ?_
  refine j_iconst hX dL_truncate_1 ⟨by decide, by decide⟩ ?_
  refine j_al0 hX dL_truncate_2 rfl ?_
  refine j_il1 hX dL_truncate_3 ?_
  have hG1 : gOK NA (G16 (G.1, G.2.1, 0, 0)) := hG
  refine j_callX (as := [vI p0]) (T := TX11) (N := 15) hX hG hC.1 hC.2.1 lk_L_15 (inT4 118 (by decide +kernel) rfl) hc ⟨by decide, by decide, rfl⟩ rfl rfl (Nat.le_of_ble_eq_true rfl) (by have h9 : 2 ≤ 20 := (by decide); omega) (Nat.le_of_ble_eq_true rfl) rfl ⟨by rw [hC.2.2.2.1]; exact Nat.le_refl _, by rw [hC.2.2.2.2]; exact Nat.le_refl _⟩ dL_truncate_4 (fun r V1 hp => ?_) (fun E V1 hE => ?_)
  · obtain ⟨x, rfl, hp⟩ := hp
    show J X (G16 (G.1, G.2.1, 0, 0)) 7 [vA 0, vI p0, vA 87, vU] [vI x, vI 0, vA 87] V1
    refine j_i2l hX dL_truncate_7 ?_
    refine j_last (n := 1) hX hG1 ⟨by decide, by decide, rfl, rfl⟩ ⟨by decide, by decide⟩ dL_truncate_8 ?_
    refine j_goto (tgt := 15) hX dL_truncate_9 (by decide) ?_
    refine j_iconst hX dL_truncate_15 ⟨by decide, by decide⟩ ?_
    exact j_retI hR dL_truncate_16 (Or.inl ⟨x, V1, hp, rfl, rfl⟩)
  · have hE9 := hx E V1 hE
    subst hE9
    · refine ⟨12, ⟨[], ⟨0, 9, 12, 19⟩, [], exB, hC.2.2.1.trans rfl, (fun z hz => by cases hz), by decide, by show (19 : Nat) ≠ 0; decide, hX.ts _ ct_19, xc_exB hC.2.1 _, rfl⟩, fun q => ?_⟩
      refine j_as3 hX dL_truncate_12 (by show isR (8, (q : Int) + 1) = true; simp [isR]; omega) rfl ?_
      refine j_iconst hX dL_truncate_13 ⟨by decide, by decide⟩ ?_
      exact j_retI hR dL_truncate_14 (Or.inr ⟨hE, rfl⟩)
theorem wr_load {V : VV} {P : Int → VV → Prop} {XP : String → VV → Prop} {lo9 : Nat} (hlo9 : lo9 ≤ 200) (hc : OkX yX11_load cX11_load 2 (some .int) 8 lo9 [vA 0] V (pI P) XP) (hx : ∀ E V', XP E V' → E = exA) : OkC yL_load cL_load 3 (some .int) [(0, 8, 11, 25)] 9 300 [vA 0, vA 87] V (pI (fun k V' => (∃ x V1, P x V1 ∧ V' = up V1 87 0 x ∧ k = 0) ∨ (XP exA V' ∧ k = 1))) := by
  refine OkC.intro (by decide +kernel) (Nat.le_of_ble_eq_true rfl) (fun X G hX hG hR hC hoa hoV => ?_)
  show J X (G.1, G.2.1, 0, 0) 0 [vA 0, vA 87, vU] [] V
  refine j_al1 hX dL_load_0 rfl ?_
  refine j_iconst hX dL_load_1 ⟨by decide, by decide⟩ ?_
  refine j_al0 hX dL_load_2 rfl ?_
  have hG1 : gOK NA (G16 (G.1, G.2.1, 0, 0)) := hG
  refine j_callX (as := []) (T := TX11) (N := 15) hX hG hC.1 hC.2.1 lk_L_21 (inT4 142 (by decide +kernel) rfl) hc ⟨by decide, by decide, rfl⟩ rfl rfl (Nat.le_of_ble_eq_true rfl) (by have h9 : 2 ≤ 20 := (by decide); omega) (Nat.le_of_ble_eq_true rfl) rfl ⟨by rw [hC.2.2.2.1]; exact Nat.le_refl _, by rw [hC.2.2.2.2]; exact Nat.le_refl _⟩ dL_load_3 (fun r V1 hp => ?_) (fun E V1 hE => ?_)
  · obtain ⟨x, rfl, hp⟩ := hp
    show J X (G16 (G.1, G.2.1, 0, 0)) 6 [vA 0, vA 87, vU] [vI x, vI 0, vA 87] V1
    refine j_i2l hX dL_load_6 ?_
    refine j_last (n := 1) hX hG1 ⟨by decide, by decide, rfl, rfl⟩ ⟨by decide, by decide⟩ dL_load_7 ?_
    refine j_goto (tgt := 14) hX dL_load_8 (by decide) ?_
    refine j_iconst hX dL_load_14 ⟨by decide, by decide⟩ ?_
    exact j_retI hR dL_load_15 (Or.inl ⟨x, V1, hp, rfl, rfl⟩)
  · have hE9 := hx E V1 hE
    subst hE9
    · refine ⟨11, ⟨[], ⟨0, 8, 11, 25⟩, [], exA, hC.2.2.1.trans rfl, (fun z hz => by cases hz), by decide, by show (25 : Nat) ≠ 0; decide, hX.ts _ ct_25, xc_exA hC.2.1 _, rfl⟩, fun q => ?_⟩
      refine j_as2 hX dL_load_11 (by show isR (8, (q : Int) + 1) = true; simp [isR]; omega) rfl ?_
      refine j_iconst hX dL_load_12 ⟨by decide, by decide⟩ ?_
      exact j_retI hR dL_load_13 (Or.inr ⟨hE, rfl⟩)
theorem wr_product {V : VV} {p0 p1 : Int} {P : Int → VV → Prop} {XP : String → VV → Prop} {lo9 : Nat} (hlo9 : lo9 ≤ 200) (hc : OkX yX11_product cX11_product 3 (some .int) 8 lo9 [vA 0, vI p0, vI p1] V (pI P) XP) (hx : ∀ E V', XP E V' → E = exB) : OkC yL_product cL_product 5 (some .int) [(0, 10, 13, 19)] 9 300 [vA 0, vI p0, vI p1, vA 87] V (pI (fun k V' => (∃ x V1, P x V1 ∧ V' = up V1 87 0 x ∧ k = 0) ∨ (XP exB V' ∧ k = 1))) := by
  refine OkC.intro (by decide +kernel) (Nat.le_of_ble_eq_true rfl) (fun X G hX hG hR hC hoa hoV => ?_)
  show J X (G.1, G.2.1, 0, 0) 0 [vA 0, vI p0, vI p1, vA 87, vU] [] V
  refine j_al3 hX dL_product_0 rfl ?_
  refine j_iconst hX dL_product_1 ⟨by decide, by decide⟩ ?_
  refine j_al0 hX dL_product_2 rfl ?_
  refine j_il1 hX dL_product_3 ?_
  refine j_il2 hX dL_product_4 ?_
  have hG1 : gOK NA (G16 (G.1, G.2.1, 0, 0)) := hG
  refine j_callX (as := [vI p0, vI p1]) (T := TX11) (N := 15) hX hG hC.1 hC.2.1 lk_L_27 (inT5 108 (by decide +kernel) rfl) hc ⟨by decide, by decide, rfl⟩ rfl rfl (Nat.le_of_ble_eq_true rfl) (by have h9 : 3 ≤ 20 := (by decide); omega) (Nat.le_of_ble_eq_true rfl) rfl ⟨by rw [hC.2.2.2.1]; exact Nat.le_refl _, by rw [hC.2.2.2.2]; exact Nat.le_refl _⟩ dL_product_5 (fun r V1 hp => ?_) (fun E V1 hE => ?_)
  · obtain ⟨x, rfl, hp⟩ := hp
    show J X (G16 (G.1, G.2.1, 0, 0)) 8 [vA 0, vI p0, vI p1, vA 87, vU] [vI x, vI 0, vA 87] V1
    refine j_i2l hX dL_product_8 ?_
    refine j_last (n := 1) hX hG1 ⟨by decide, by decide, rfl, rfl⟩ ⟨by decide, by decide⟩ dL_product_9 ?_
    refine j_goto (tgt := 17) hX dL_product_10 (by decide) ?_
    refine j_iconst hX dL_product_17 ⟨by decide, by decide⟩ ?_
    exact j_retI hR dL_product_18 (Or.inl ⟨x, V1, hp, rfl, rfl⟩)
  · have hE9 := hx E V1 hE
    subst hE9
    · refine ⟨13, ⟨[], ⟨0, 10, 13, 19⟩, [], exB, hC.2.2.1.trans rfl, (fun z hz => by cases hz), by decide, by show (19 : Nat) ≠ 0; decide, hX.ts _ ct_19, xc_exB hC.2.1 _, rfl⟩, fun q => ?_⟩
      refine j_as4 hX dL_product_13 (by show isR (8, (q : Int) + 1) = true; simp [isR]; omega) rfl ?_
      refine j_iconst hX dL_product_15 ⟨by decide, by decide⟩ ?_
      exact j_retI hR dL_product_16 (Or.inr ⟨hE, rfl⟩)
theorem wr_element {V : VV} {p0 p1 : Int} {P : Int → VV → Prop} {XP : String → VV → Prop} {lo9 : Nat} (hlo9 : lo9 ≤ 200) (hc : OkX yX11_element cX11_element 3 (some .int) 8 lo9 [vA 0, vI p0, vI p1] V (pI P) XP) (hx : ∀ E V', XP E V' → E = exB ∨ E = exA) : OkC yL_element cL_element 5 (some .int) [(0, 10, 13, 19), (0, 10, 17, 25)] 9 300 [vA 0, vI p0, vI p1, vA 87] V (pI (fun k V' => (∃ x V1, P x V1 ∧ V' = up V1 87 0 x ∧ k = 0) ∨ (XP exB V' ∧ k = 1) ∨ (XP exA V' ∧ k = 2))) := by
  refine OkC.intro (by decide +kernel) (Nat.le_of_ble_eq_true rfl) (fun X G hX hG hR hC hoa hoV => ?_)
  show J X (G.1, G.2.1, 0, 0) 0 [vA 0, vI p0, vI p1, vA 87, vU] [] V
  refine j_al3 hX dL_element_0 rfl ?_
  refine j_iconst hX dL_element_1 ⟨by decide, by decide⟩ ?_
  refine j_al0 hX dL_element_2 rfl ?_
  refine j_il1 hX dL_element_3 ?_
  refine j_il2 hX dL_element_4 ?_
  have hG1 : gOK NA (G16 (G.1, G.2.1, 0, 0)) := hG
  refine j_callX (as := [vI p0, vI p1]) (T := TX11) (N := 15) hX hG hC.1 hC.2.1 lk_L_31 (inT5 121 (by decide +kernel) rfl) hc ⟨by decide, by decide, rfl⟩ rfl rfl (Nat.le_of_ble_eq_true rfl) (by have h9 : 3 ≤ 20 := (by decide); omega) (Nat.le_of_ble_eq_true rfl) rfl ⟨by rw [hC.2.2.2.1]; exact Nat.le_refl _, by rw [hC.2.2.2.2]; exact Nat.le_refl _⟩ dL_element_5 (fun r V1 hp => ?_) (fun E V1 hE => ?_)
  · obtain ⟨x, rfl, hp⟩ := hp
    show J X (G16 (G.1, G.2.1, 0, 0)) 8 [vA 0, vI p0, vI p1, vA 87, vU] [vI x, vI 0, vA 87] V1
    refine j_i2l hX dL_element_8 ?_
    refine j_last (n := 1) hX hG1 ⟨by decide, by decide, rfl, rfl⟩ ⟨by decide, by decide⟩ dL_element_9 ?_
    refine j_goto (tgt := 21) hX dL_element_10 (by decide) ?_
    refine j_iconst hX dL_element_21 ⟨by decide, by decide⟩ ?_
    exact j_retI hR dL_element_22 (Or.inl ⟨x, V1, hp, rfl, rfl⟩)
  · have hE9 := hx E V1 hE
    rcases hE9 with rfl | rfl
    · refine ⟨13, ⟨[], ⟨0, 10, 13, 19⟩, [⟨0, 10, 17, 25⟩], exB, hC.2.2.1.trans rfl, (fun z hz => by cases hz), by decide, by show (19 : Nat) ≠ 0; decide, hX.ts _ ct_19, xc_exB hC.2.1 _, rfl⟩, fun q => ?_⟩
      refine j_as4 hX dL_element_13 (by show isR (8, (q : Int) + 1) = true; simp [isR]; omega) rfl ?_
      refine j_iconst hX dL_element_15 ⟨by decide, by decide⟩ ?_
      exact j_retI hR dL_element_16 (Or.inr (Or.inl ⟨hE, rfl⟩))
    · refine ⟨17, ⟨[⟨0, 10, 13, 19⟩], ⟨0, 10, 17, 25⟩, [], exA, hC.2.2.1.trans rfl, (fun z hz => by
        simp only [List.mem_cons, List.not_mem_nil, or_false] at hz
        subst hz
        · exact Or.inr ⟨by show (19 : Nat) ≠ 0; decide, exB, hX.ts _ ct_19, hC.2.1.2 (exA, exB) (by simp [XNp])⟩), by decide, by show (25 : Nat) ≠ 0; decide, hX.ts _ ct_25, xc_exA hC.2.1 _, rfl⟩, fun q => ?_⟩
      refine j_as4 hX dL_element_17 (by show isR (8, (q : Int) + 1) = true; simp [isR]; omega) rfl ?_
      refine j_iconst hX dL_element_19 ⟨by decide, by decide⟩ ?_
      exact j_retI hR dL_element_20 (Or.inr (Or.inr ⟨hE, rfl⟩))
theorem wr_generated {V : VV} {p0 : Int} {P : Int → VV → Prop} {XP : String → VV → Prop} {lo9 : Nat} (hlo9 : lo9 ≤ 200) (hc : OkX yX11_generated cX11_generated 2 (some .int) 8 lo9 [vA 0, vI p0] V (pI P) XP) (hx : ∀ E V', XP E V' → E = exA) : OkC yL_generated cL_generated 4 (some .int) [(0, 9, 12, 25)] 9 300 [vA 0, vI p0, vA 87] V (pI (fun k V' => (∃ x V1, P x V1 ∧ V' = up V1 87 0 x ∧ k = 0) ∨ (XP exA V' ∧ k = 1))) := by
  refine OkC.intro (by decide +kernel) (Nat.le_of_ble_eq_true rfl) (fun X G hX hG hR hC hoa hoV => ?_)
  show J X (G.1, G.2.1, 0, 0) 0 [vA 0, vI p0, vA 87, vU] [] V
  refine j_al2 hX dL_generated_0 rfl ?_
  refine j_iconst hX dL_generated_1 ⟨by decide, by decide⟩ ?_
  refine j_al0 hX dL_generated_2 rfl ?_
  refine j_il1 hX dL_generated_3 ?_
  have hG1 : gOK NA (G16 (G.1, G.2.1, 0, 0)) := hG
  refine j_callX (as := [vI p0]) (T := TX11) (N := 15) hX hG hC.1 hC.2.1 lk_L_34 (inT5 143 (by decide +kernel) rfl) hc ⟨by decide, by decide, rfl⟩ rfl rfl (Nat.le_of_ble_eq_true rfl) (by have h9 : 2 ≤ 20 := (by decide); omega) (Nat.le_of_ble_eq_true rfl) rfl ⟨by rw [hC.2.2.2.1]; exact Nat.le_refl _, by rw [hC.2.2.2.2]; exact Nat.le_refl _⟩ dL_generated_4 (fun r V1 hp => ?_) (fun E V1 hE => ?_)
  · obtain ⟨x, rfl, hp⟩ := hp
    show J X (G16 (G.1, G.2.1, 0, 0)) 7 [vA 0, vI p0, vA 87, vU] [vI x, vI 0, vA 87] V1
    refine j_i2l hX dL_generated_7 ?_
    refine j_last (n := 1) hX hG1 ⟨by decide, by decide, rfl, rfl⟩ ⟨by decide, by decide⟩ dL_generated_8 ?_
    refine j_goto (tgt := 15) hX dL_generated_9 (by decide) ?_
    refine j_iconst hX dL_generated_15 ⟨by decide, by decide⟩ ?_
    exact j_retI hR dL_generated_16 (Or.inl ⟨x, V1, hp, rfl, rfl⟩)
  · have hE9 := hx E V1 hE
    subst hE9
    · refine ⟨12, ⟨[], ⟨0, 9, 12, 25⟩, [], exA, hC.2.2.1.trans rfl, (fun z hz => by cases hz), by decide, by show (25 : Nat) ≠ 0; decide, hX.ts _ ct_25, xc_exA hC.2.1 _, rfl⟩, fun q => ?_⟩
      refine j_as3 hX dL_generated_12 (by show isR (8, (q : Int) + 1) = true; simp [isR]; omega) rfl ?_
      refine j_iconst hX dL_generated_13 ⟨by decide, by decide⟩ ?_
      exact j_retI hR dL_generated_14 (Or.inr ⟨hE, rfl⟩)
theorem wr_rule {V : VV} {p0 p1 p2 : Int} {P : Int → VV → Prop} {XP : String → VV → Prop} {lo9 : Nat} (hlo9 : lo9 ≤ 200) (hc : OkX yX11_rule cX11_rule 4 (some .int) 8 lo9 [vA 0, vI p0, vI p1, vI p2] V (pI P) XP) (hx : ∀ E V', XP E V' → E = exB) : OkC yL_rule cL_rule 6 (some .int) [(0, 12, 15, 19)] 9 300 [vA 0, vI p0, vI p1, vI p2, vA 87] V (pI (fun k V' => (∃ x V1, P x V1 ∧ V' = up V1 87 0 x ∧ k = 0) ∨ (XP exB V' ∧ k = 1))) := by
  refine OkC.intro (by decide +kernel) (Nat.le_of_ble_eq_true rfl) (fun X G hX hG hR hC hoa hoV => ?_)
  show J X (G.1, G.2.1, 0, 0) 0 [vA 0, vI p0, vI p1, vI p2, vA 87, vU] [] V
  refine j_al4 hX dL_rule_0 rfl ?_
  refine j_iconst hX dL_rule_2 ⟨by decide, by decide⟩ ?_
  refine j_al0 hX dL_rule_3 rfl ?_
  refine j_il1 hX dL_rule_4 ?_
  refine j_il2 hX dL_rule_5 ?_
  refine j_il3 hX dL_rule_6 ?_
  have hG1 : gOK NA (G16 (G.1, G.2.1, 0, 0)) := hG
  refine j_callX (as := [vI p0, vI p1, vI p2]) (T := TX11) (N := 15) hX hG hC.1 hC.2.1 lk_L_37 (inT5 152 (by decide +kernel) rfl) hc ⟨by decide, by decide, rfl⟩ rfl rfl (Nat.le_of_ble_eq_true rfl) (by have h9 : 4 ≤ 20 := (by decide); omega) (Nat.le_of_ble_eq_true rfl) rfl ⟨by rw [hC.2.2.2.1]; exact Nat.le_refl _, by rw [hC.2.2.2.2]; exact Nat.le_refl _⟩ dL_rule_7 (fun r V1 hp => ?_) (fun E V1 hE => ?_)
  · obtain ⟨x, rfl, hp⟩ := hp
    show J X (G16 (G.1, G.2.1, 0, 0)) 10 [vA 0, vI p0, vI p1, vI p2, vA 87, vU] [vI x, vI 0, vA 87] V1
    refine j_i2l hX dL_rule_10 ?_
    refine j_last (n := 1) hX hG1 ⟨by decide, by decide, rfl, rfl⟩ ⟨by decide, by decide⟩ dL_rule_11 ?_
    refine j_goto (tgt := 19) hX dL_rule_12 (by decide) ?_
    refine j_iconst hX dL_rule_19 ⟨by decide, by decide⟩ ?_
    exact j_retI hR dL_rule_20 (Or.inl ⟨x, V1, hp, rfl, rfl⟩)
  · have hE9 := hx E V1 hE
    subst hE9
    · refine ⟨15, ⟨[], ⟨0, 12, 15, 19⟩, [], exB, hC.2.2.1.trans rfl, (fun z hz => by cases hz), by decide, by show (19 : Nat) ≠ 0; decide, hX.ts _ ct_19, xc_exB hC.2.1 _, rfl⟩, fun q => ?_⟩
      refine j_as5 hX dL_rule_15 (by show isR (8, (q : Int) + 1) = true; simp [isR]; omega) rfl ?_
      refine j_iconst hX dL_rule_17 ⟨by decide, by decide⟩ ?_
      exact j_retI hR dL_rule_18 (Or.inr ⟨hE, rfl⟩)
theorem wr_words {V : VV} {p0 : Int} {P : Int → VV → Prop} {XP : String → VV → Prop} {lo9 : Nat} (hlo9 : lo9 ≤ 200) (hc : OkX yX11_words cX11_words 2 (some .int) 8 lo9 [vA 0, vI p0] V (pI P) XP) (hx : ∀ E V', XP E V' → E = exB) : OkC yL_words cL_words 4 (some .int) [(0, 9, 12, 19)] 9 300 [vA 0, vI p0, vA 87] V (pI (fun k V' => (∃ x V1, P x V1 ∧ V' = up V1 87 0 x ∧ k = 0) ∨ (XP exB V' ∧ k = 1))) := by
  refine OkC.intro (by decide +kernel) (Nat.le_of_ble_eq_true rfl) (fun X G hX hG hR hC hoa hoV => ?_)
  show J X (G.1, G.2.1, 0, 0) 0 [vA 0, vI p0, vA 87, vU] [] V
  refine j_al2 hX dL_words_0 rfl ?_
  refine j_iconst hX dL_words_1 ⟨by decide, by decide⟩ ?_
  refine j_al0 hX dL_words_2 rfl ?_
  refine j_il1 hX dL_words_3 ?_
  have hG1 : gOK NA (G16 (G.1, G.2.1, 0, 0)) := hG
  refine j_callX (as := [vI p0]) (T := TX11) (N := 15) hX hG hC.1 hC.2.1 lk_L_41 (inT5 173 (by decide +kernel) rfl) hc ⟨by decide, by decide, rfl⟩ rfl rfl (Nat.le_of_ble_eq_true rfl) (by have h9 : 2 ≤ 20 := (by decide); omega) (Nat.le_of_ble_eq_true rfl) rfl ⟨by rw [hC.2.2.2.1]; exact Nat.le_refl _, by rw [hC.2.2.2.2]; exact Nat.le_refl _⟩ dL_words_4 (fun r V1 hp => ?_) (fun E V1 hE => ?_)
  · obtain ⟨x, rfl, hp⟩ := hp
    show J X (G16 (G.1, G.2.1, 0, 0)) 7 [vA 0, vI p0, vA 87, vU] [vI x, vI 0, vA 87] V1
    refine j_i2l hX dL_words_7 ?_
    refine j_last (n := 1) hX hG1 ⟨by decide, by decide, rfl, rfl⟩ ⟨by decide, by decide⟩ dL_words_8 ?_
    refine j_goto (tgt := 15) hX dL_words_9 (by decide) ?_
    refine j_iconst hX dL_words_15 ⟨by decide, by decide⟩ ?_
    exact j_retI hR dL_words_16 (Or.inl ⟨x, V1, hp, rfl, rfl⟩)
  · have hE9 := hx E V1 hE
    subst hE9
    · refine ⟨12, ⟨[], ⟨0, 9, 12, 19⟩, [], exB, hC.2.2.1.trans rfl, (fun z hz => by cases hz), by decide, by show (19 : Nat) ≠ 0; decide, hX.ts _ ct_19, xc_exB hC.2.1 _, rfl⟩, fun q => ?_⟩
      refine j_as3 hX dL_words_12 (by show isR (8, (q : Int) + 1) = true; simp [isR]; omega) rfl ?_
      refine j_iconst hX dL_words_13 ⟨by decide, by decide⟩ ?_
      exact j_retI hR dL_words_14 (Or.inr ⟨hE, rfl⟩)
theorem wr_setCase {V : VV} {p0 p1 p2 p3 : Int} {P : Int → VV → Prop} {XP : String → VV → Prop} {lo9 : Nat} (hlo9 : lo9 ≤ 200) (hc : OkX yX11_setCase cX11_setCase 7 (some .int) 8 lo9 [vA 0, vI p0, vI p1, vI p2, vI p3] V (pI P) XP) (hx : ∀ E V', XP E V' → E = exB) : OkC yL_setCase cL_setCase 7 (some .int) [(0, 14, 17, 19)] 9 300 [vA 0, vI p0, vI p1, vI p2, vI p3, vA 87] V (pI (fun k V' => (∃ x V1, P x V1 ∧ V' = up V1 87 0 x ∧ k = 0) ∨ (XP exB V' ∧ k = 1))) := by
  refine OkC.intro (by decide +kernel) (Nat.le_of_ble_eq_true rfl) (fun X G hX hG hR hC hoa hoV => ?_)
  show J X (G.1, G.2.1, 0, 0) 0 [vA 0, vI p0, vI p1, vI p2, vI p3, vA 87, vU] [] V
  refine j_al5 hX dL_setCase_0 rfl ?_
  refine j_iconst hX dL_setCase_2 ⟨by decide, by decide⟩ ?_
  refine j_al0 hX dL_setCase_3 rfl ?_
  refine j_il1 hX dL_setCase_4 ?_
  refine j_il2 hX dL_setCase_5 ?_
  refine j_il3 hX dL_setCase_6 ?_
  refine j_il4 hX dL_setCase_7 ?_
  have hG1 : gOK NA (G16 (G.1, G.2.1, 0, 0)) := hG
  refine j_callX (as := [vI p0, vI p1, vI p2, vI p3]) (T := TX11) (N := 15) hX hG hC.1 hC.2.1 lk_L_44 (inT5 184 (by decide +kernel) rfl) hc ⟨by decide, by decide, rfl⟩ rfl rfl (Nat.le_of_ble_eq_true rfl) (by have h9 : 7 ≤ 20 := (by decide); omega) (Nat.le_of_ble_eq_true rfl) rfl ⟨by rw [hC.2.2.2.1]; exact Nat.le_refl _, by rw [hC.2.2.2.2]; exact Nat.le_refl _⟩ dL_setCase_9 (fun r V1 hp => ?_) (fun E V1 hE => ?_)
  · obtain ⟨x, rfl, hp⟩ := hp
    show J X (G16 (G.1, G.2.1, 0, 0)) 12 [vA 0, vI p0, vI p1, vI p2, vI p3, vA 87, vU] [vI x, vI 0, vA 87] V1
    refine j_i2l hX dL_setCase_12 ?_
    refine j_last (n := 1) hX hG1 ⟨by decide, by decide, rfl, rfl⟩ ⟨by decide, by decide⟩ dL_setCase_13 ?_
    refine j_goto (tgt := 21) hX dL_setCase_14 (by decide) ?_
    refine j_iconst hX dL_setCase_21 ⟨by decide, by decide⟩ ?_
    exact j_retI hR dL_setCase_22 (Or.inl ⟨x, V1, hp, rfl, rfl⟩)
  · have hE9 := hx E V1 hE
    subst hE9
    · refine ⟨17, ⟨[], ⟨0, 14, 17, 19⟩, [], exB, hC.2.2.1.trans rfl, (fun z hz => by cases hz), by decide, by show (19 : Nat) ≠ 0; decide, hX.ts _ ct_19, xc_exB hC.2.1 _, rfl⟩, fun q => ?_⟩
      refine j_as6 hX dL_setCase_17 (by show isR (8, (q : Int) + 1) = true; simp [isR]; omega) rfl ?_
      refine j_iconst hX dL_setCase_19 ⟨by decide, by decide⟩ ?_
      exact j_retI hR dL_setCase_20 (Or.inr ⟨hE, rfl⟩)
theorem wr_diamond {V : VV} {P : Int → VV → Prop} {XP : String → VV → Prop} {lo9 : Nat} (hlo9 : lo9 ≤ 200) (hc : OkX yX11_diamond cX11_diamond 1 (some .int) 8 lo9 [vA 0] V (pI P) XP) (hx : ∀ E V', XP E V' → E = exN) : OkC yL_diamond cL_diamond 3 (some .int) [(0, 8, 11, 51)] 9 300 [vA 0, vA 87] V (pI (fun k V' => (∃ x V1, P x V1 ∧ V' = up V1 87 0 x ∧ k = 0) ∨ (XP exN V' ∧ k = 1))) := by
  refine OkC.intro (by decide +kernel) (Nat.le_of_ble_eq_true rfl) (fun X G hX hG hR hC hoa hoV => ?_)
  show J X (G.1, G.2.1, 0, 0) 0 [vA 0, vA 87, vU] [] V
  refine j_al1 hX dL_diamond_0 rfl ?_
  refine j_iconst hX dL_diamond_1 ⟨by decide, by decide⟩ ?_
  refine j_al0 hX dL_diamond_2 rfl ?_
  have hG1 : gOK NA (G16 (G.1, G.2.1, 0, 0)) := hG
  refine j_callX (as := []) (T := TX11) (N := 15) hX hG hC.1 hC.2.1 lk_L_48 (inT5 192 (by decide +kernel) rfl) hc ⟨by decide, by decide, rfl⟩ rfl rfl (Nat.le_of_ble_eq_true rfl) (by have h9 : 1 ≤ 20 := (by decide); omega) (Nat.le_of_ble_eq_true rfl) rfl ⟨by rw [hC.2.2.2.1]; exact Nat.le_refl _, by rw [hC.2.2.2.2]; exact Nat.le_refl _⟩ dL_diamond_3 (fun r V1 hp => ?_) (fun E V1 hE => ?_)
  · obtain ⟨x, rfl, hp⟩ := hp
    show J X (G16 (G.1, G.2.1, 0, 0)) 6 [vA 0, vA 87, vU] [vI x, vI 0, vA 87] V1
    refine j_i2l hX dL_diamond_6 ?_
    refine j_last (n := 1) hX hG1 ⟨by decide, by decide, rfl, rfl⟩ ⟨by decide, by decide⟩ dL_diamond_7 ?_
    refine j_goto (tgt := 14) hX dL_diamond_8 (by decide) ?_
    refine j_iconst hX dL_diamond_14 ⟨by decide, by decide⟩ ?_
    exact j_retI hR dL_diamond_15 (Or.inl ⟨x, V1, hp, rfl, rfl⟩)
  · have hE9 := hx E V1 hE
    subst hE9
    · refine ⟨11, ⟨[], ⟨0, 8, 11, 51⟩, [], exN, hC.2.2.1.trans rfl, (fun z hz => by cases hz), by decide, by show (51 : Nat) ≠ 0; decide, hX.ts _ ct_51, xc_exN hC.2.1 _, rfl⟩, fun q => ?_⟩
      refine j_as2 hX dL_diamond_11 (by show isR (8, (q : Int) + 1) = true; simp [isR]; omega) rfl ?_
      refine j_iconst hX dL_diamond_12 ⟨by decide, by decide⟩ ?_
      exact j_retI hR dL_diamond_13 (Or.inr ⟨hE, rfl⟩)
theorem wr_inverse {V : VV} {p0 : Int} {P : Int → VV → Prop} {XP : String → VV → Prop} {lo9 : Nat} (hlo9 : lo9 ≤ 200) (hc : OkX yX11_inverse cX11_inverse 2 (some .int) 8 lo9 [vA 0, vI p0] V (pI P) XP) (hx : ∀ E V', XP E V' → E = exA ∨ E = exN) : OkC yL_inverse cL_inverse 4 (some .int) [(0, 9, 12, 25), (0, 9, 15, 51)] 9 300 [vA 0, vI p0, vA 87] V (pI (fun k V' => (∃ x V1, P x V1 ∧ V' = up V1 87 0 x ∧ k = 0) ∨ (XP exA V' ∧ k = 1) ∨ (XP exN V' ∧ k = 2))) := by
  refine OkC.intro (by decide +kernel) (Nat.le_of_ble_eq_true rfl) (fun X G hX hG hR hC hoa hoV => ?_)
  show J X (G.1, G.2.1, 0, 0) 0 [vA 0, vI p0, vA 87, vU] [] V
  refine j_al2 hX dL_inverse_0 rfl ?_
  refine j_iconst hX dL_inverse_1 ⟨by decide, by decide⟩ ?_
  refine j_al0 hX dL_inverse_2 rfl ?_
  refine j_il1 hX dL_inverse_3 ?_
  have hG1 : gOK NA (G16 (G.1, G.2.1, 0, 0)) := hG
  refine j_callX (as := [vI p0]) (T := TX11) (N := 15) hX hG hC.1 hC.2.1 lk_L_53 (inT5 215 (by decide +kernel) rfl) hc ⟨by decide, by decide, rfl⟩ rfl rfl (Nat.le_of_ble_eq_true rfl) (by have h9 : 2 ≤ 20 := (by decide); omega) (Nat.le_of_ble_eq_true rfl) rfl ⟨by rw [hC.2.2.2.1]; exact Nat.le_refl _, by rw [hC.2.2.2.2]; exact Nat.le_refl _⟩ dL_inverse_4 (fun r V1 hp => ?_) (fun E V1 hE => ?_)
  · obtain ⟨x, rfl, hp⟩ := hp
    show J X (G16 (G.1, G.2.1, 0, 0)) 7 [vA 0, vI p0, vA 87, vU] [vI x, vI 0, vA 87] V1
    refine j_i2l hX dL_inverse_7 ?_
    refine j_last (n := 1) hX hG1 ⟨by decide, by decide, rfl, rfl⟩ ⟨by decide, by decide⟩ dL_inverse_8 ?_
    refine j_goto (tgt := 18) hX dL_inverse_9 (by decide) ?_
    refine j_iconst hX dL_inverse_18 ⟨by decide, by decide⟩ ?_
    exact j_retI hR dL_inverse_19 (Or.inl ⟨x, V1, hp, rfl, rfl⟩)
  · have hE9 := hx E V1 hE
    rcases hE9 with rfl | rfl
    · refine ⟨12, ⟨[], ⟨0, 9, 12, 25⟩, [⟨0, 9, 15, 51⟩], exA, hC.2.2.1.trans rfl, (fun z hz => by cases hz), by decide, by show (25 : Nat) ≠ 0; decide, hX.ts _ ct_25, xc_exA hC.2.1 _, rfl⟩, fun q => ?_⟩
      refine j_as3 hX dL_inverse_12 (by show isR (8, (q : Int) + 1) = true; simp [isR]; omega) rfl ?_
      refine j_iconst hX dL_inverse_13 ⟨by decide, by decide⟩ ?_
      exact j_retI hR dL_inverse_14 (Or.inr (Or.inl ⟨hE, rfl⟩))
    · refine ⟨15, ⟨[⟨0, 9, 12, 25⟩], ⟨0, 9, 15, 51⟩, [], exN, hC.2.2.1.trans rfl, (fun z hz => by
        simp only [List.mem_cons, List.not_mem_nil, or_false] at hz
        subst hz
        · exact Or.inr ⟨by show (25 : Nat) ≠ 0; decide, exA, hX.ts _ ct_25, hC.2.1.2 (exN, exA) (by simp [XNp])⟩), by decide, by show (51 : Nat) ≠ 0; decide, hX.ts _ ct_51, xc_exN hC.2.1 _, rfl⟩, fun q => ?_⟩
      refine j_as3 hX dL_inverse_15 (by show isR (8, (q : Int) + 1) = true; simp [isR]; omega) rfl ?_
      refine j_iconst hX dL_inverse_16 ⟨by decide, by decide⟩ ?_
      exact j_retI hR dL_inverse_17 (Or.inr (Or.inr ⟨hE, rfl⟩))
theorem wr_inverseOf {V : VV} {p0 : Int} {P : Int → VV → Prop} {XP : String → VV → Prop} {lo9 : Nat} (hlo9 : lo9 ≤ 200) (hc : OkX yX11_inverseOf cX11_inverseOf 3 (some .int) 8 lo9 [vA 0, vI p0] V (pI P) XP) (hx : ∀ E V', XP E V' → E = exN ∨ E = exA) : OkC yL_inverseOf cL_inverseOf 4 (some .int) [(0, 9, 12, 51), (0, 9, 15, 25)] 9 300 [vA 0, vI p0, vA 87] V (pI (fun k V' => (∃ x V1, P x V1 ∧ V' = up V1 87 0 x ∧ k = 0) ∨ (XP exN V' ∧ k = 1) ∨ (XP exA V' ∧ k = 2))) := by
  refine OkC.intro (by decide +kernel) (Nat.le_of_ble_eq_true rfl) (fun X G hX hG hR hC hoa hoV => ?_)
  show J X (G.1, G.2.1, 0, 0) 0 [vA 0, vI p0, vA 87, vU] [] V
  refine j_al2 hX dL_inverseOf_0 rfl ?_
  refine j_iconst hX dL_inverseOf_1 ⟨by decide, by decide⟩ ?_
  refine j_al0 hX dL_inverseOf_2 rfl ?_
  refine j_il1 hX dL_inverseOf_3 ?_
  have hG1 : gOK NA (G16 (G.1, G.2.1, 0, 0)) := hG
  refine j_callX (as := [vI p0]) (T := TX11) (N := 15) hX hG hC.1 hC.2.1 lk_L_56 (inT6 18 (by decide +kernel) rfl) hc ⟨by decide, by decide, rfl⟩ rfl rfl (Nat.le_of_ble_eq_true rfl) (by have h9 : 3 ≤ 20 := (by decide); omega) (Nat.le_of_ble_eq_true rfl) rfl ⟨by rw [hC.2.2.2.1]; exact Nat.le_refl _, by rw [hC.2.2.2.2]; exact Nat.le_refl _⟩ dL_inverseOf_4 (fun r V1 hp => ?_) (fun E V1 hE => ?_)
  · obtain ⟨x, rfl, hp⟩ := hp
    show J X (G16 (G.1, G.2.1, 0, 0)) 7 [vA 0, vI p0, vA 87, vU] [vI x, vI 0, vA 87] V1
    refine j_i2l hX dL_inverseOf_7 ?_
    refine j_last (n := 1) hX hG1 ⟨by decide, by decide, rfl, rfl⟩ ⟨by decide, by decide⟩ dL_inverseOf_8 ?_
    refine j_goto (tgt := 18) hX dL_inverseOf_9 (by decide) ?_
    refine j_iconst hX dL_inverseOf_18 ⟨by decide, by decide⟩ ?_
    exact j_retI hR dL_inverseOf_19 (Or.inl ⟨x, V1, hp, rfl, rfl⟩)
  · have hE9 := hx E V1 hE
    rcases hE9 with rfl | rfl
    · refine ⟨12, ⟨[], ⟨0, 9, 12, 51⟩, [⟨0, 9, 15, 25⟩], exN, hC.2.2.1.trans rfl, (fun z hz => by cases hz), by decide, by show (51 : Nat) ≠ 0; decide, hX.ts _ ct_51, xc_exN hC.2.1 _, rfl⟩, fun q => ?_⟩
      refine j_as3 hX dL_inverseOf_12 (by show isR (8, (q : Int) + 1) = true; simp [isR]; omega) rfl ?_
      refine j_iconst hX dL_inverseOf_13 ⟨by decide, by decide⟩ ?_
      exact j_retI hR dL_inverseOf_14 (Or.inr (Or.inl ⟨hE, rfl⟩))
    · refine ⟨15, ⟨[⟨0, 9, 12, 51⟩], ⟨0, 9, 15, 25⟩, [], exA, hC.2.2.1.trans rfl, (fun z hz => by
        simp only [List.mem_cons, List.not_mem_nil, or_false] at hz
        subst hz
        · exact Or.inr ⟨by show (51 : Nat) ≠ 0; decide, exN, hX.ts _ ct_51, hC.2.1.2 (exA, exN) (by simp [XNp])⟩), by decide, by show (25 : Nat) ≠ 0; decide, hX.ts _ ct_25, xc_exA hC.2.1 _, rfl⟩, fun q => ?_⟩
      refine j_as3 hX dL_inverseOf_15 (by show isR (8, (q : Int) + 1) = true; simp [isR]; omega) rfl ?_
      refine j_iconst hX dL_inverseOf_16 ⟨by decide, by decide⟩ ?_
      exact j_retI hR dL_inverseOf_17 (Or.inr (Or.inr ⟨hE, rfl⟩))
theorem wr_sum {V : VV} {p0 p1 p2 : Int} {P : Int → VV → Prop} {XP : String → VV → Prop} {lo9 : Nat} (hlo9 : lo9 ≤ 200) (hc : OkX yX11_sum cX11_sum 4 (some .long) 8 lo9 [vA 0, vI p0, vI p1, vI p2] V (pL P) XP) (hx : ∀ E V', XP E V' → E = exB ∨ E = exA) : OkC yL_sum cL_sum 6 (some .int) [(0, 11, 14, 19), (0, 11, 18, 25)] 9 300 [vA 0, vI p0, vI p1, vI p2, vA 87] V (pI (fun k V' => (∃ x V1, P x V1 ∧ V' = up V1 87 0 x ∧ k = 0) ∨ (XP exB V' ∧ k = 1) ∨ (XP exA V' ∧ k = 2))) := by
  refine OkC.intro (by decide +kernel) (Nat.le_of_ble_eq_true rfl) (fun X G hX hG hR hC hoa hoV => ?_)
  show J X (G.1, G.2.1, 0, 0) 0 [vA 0, vI p0, vI p1, vI p2, vA 87, vU] [] V
  refine j_al4 hX dL_sum_0 rfl ?_
  refine j_iconst hX dL_sum_2 ⟨by decide, by decide⟩ ?_
  refine j_al0 hX dL_sum_3 rfl ?_
  refine j_il1 hX dL_sum_4 ?_
  refine j_il2 hX dL_sum_5 ?_
  refine j_il3 hX dL_sum_6 ?_
  have hG1 : gOK NA (G16 (G.1, G.2.1, 0, 0)) := hG
  refine j_callX (as := [vI p0, vI p1, vI p2]) (T := TX11) (N := 15) hX hG hC.1 hC.2.1 lk_L_59 (inT6 34 (by decide +kernel) rfl) hc ⟨by decide, by decide, rfl⟩ rfl rfl (Nat.le_of_ble_eq_true rfl) (by have h9 : 4 ≤ 20 := (by decide); omega) (Nat.le_of_ble_eq_true rfl) rfl ⟨by rw [hC.2.2.2.1]; exact Nat.le_refl _, by rw [hC.2.2.2.2]; exact Nat.le_refl _⟩ dL_sum_7 (fun r V1 hp => ?_) (fun E V1 hE => ?_)
  · obtain ⟨x, rfl, hp⟩ := hp
    show J X (G16 (G.1, G.2.1, 0, 0)) 10 [vA 0, vI p0, vI p1, vI p2, vA 87, vU] [vL x, vI 0, vA 87] V1
    refine j_last (n := 1) hX hG1 ⟨by decide, by decide, rfl, rfl⟩ ⟨by decide, by decide⟩ dL_sum_10 ?_
    refine j_goto (tgt := 22) hX dL_sum_11 (by decide) ?_
    refine j_iconst hX dL_sum_22 ⟨by decide, by decide⟩ ?_
    exact j_retI hR dL_sum_23 (Or.inl ⟨x, V1, hp, rfl, rfl⟩)
  · have hE9 := hx E V1 hE
    rcases hE9 with rfl | rfl
    · refine ⟨14, ⟨[], ⟨0, 11, 14, 19⟩, [⟨0, 11, 18, 25⟩], exB, hC.2.2.1.trans rfl, (fun z hz => by cases hz), by decide, by show (19 : Nat) ≠ 0; decide, hX.ts _ ct_19, xc_exB hC.2.1 _, rfl⟩, fun q => ?_⟩
      refine j_as5 hX dL_sum_14 (by show isR (8, (q : Int) + 1) = true; simp [isR]; omega) rfl ?_
      refine j_iconst hX dL_sum_16 ⟨by decide, by decide⟩ ?_
      exact j_retI hR dL_sum_17 (Or.inr (Or.inl ⟨hE, rfl⟩))
    · refine ⟨18, ⟨[⟨0, 11, 14, 19⟩], ⟨0, 11, 18, 25⟩, [], exA, hC.2.2.1.trans rfl, (fun z hz => by
        simp only [List.mem_cons, List.not_mem_nil, or_false] at hz
        subst hz
        · exact Or.inr ⟨by show (19 : Nat) ≠ 0; decide, exB, hX.ts _ ct_19, hC.2.1.2 (exA, exB) (by simp [XNp])⟩), by decide, by show (25 : Nat) ≠ 0; decide, hX.ts _ ct_25, xc_exA hC.2.1 _, rfl⟩, fun q => ?_⟩
      refine j_as5 hX dL_sum_18 (by show isR (8, (q : Int) + 1) = true; simp [isR]; omega) rfl ?_
      refine j_iconst hX dL_sum_20 ⟨by decide, by decide⟩ ?_
      exact j_retI hR dL_sum_21 (Or.inr (Or.inr ⟨hE, rfl⟩))
theorem wr_value {V : VV} {p0 p1 : Int} {P : Int → VV → Prop} {XP : String → VV → Prop} {lo9 : Nat} (hlo9 : lo9 ≤ 200) (hc : OkX yX11_value cX11_value 3 (some .long) 8 lo9 [vA 0, vI p0, vI p1] V (pL P) XP) (hx : ∀ E V', XP E V' → E = exB ∨ E = exA) : OkC yL_value cL_value 5 (some .int) [(0, 9, 12, 19), (0, 9, 16, 25)] 9 300 [vA 0, vI p0, vI p1, vA 87] V (pI (fun k V' => (∃ x V1, P x V1 ∧ V' = up V1 87 0 x ∧ k = 0) ∨ (XP exB V' ∧ k = 1) ∨ (XP exA V' ∧ k = 2))) := by
  refine OkC.intro (by decide +kernel) (Nat.le_of_ble_eq_true rfl) (fun X G hX hG hR hC hoa hoV => ?_)
  show J X (G.1, G.2.1, 0, 0) 0 [vA 0, vI p0, vI p1, vA 87, vU] [] V
  refine j_al3 hX dL_value_0 rfl ?_
  refine j_iconst hX dL_value_1 ⟨by decide, by decide⟩ ?_
  refine j_al0 hX dL_value_2 rfl ?_
  refine j_il1 hX dL_value_3 ?_
  refine j_il2 hX dL_value_4 ?_
  have hG1 : gOK NA (G16 (G.1, G.2.1, 0, 0)) := hG
  refine j_callX (as := [vI p0, vI p1]) (T := TX11) (N := 15) hX hG hC.1 hC.2.1 lk_L_63 (inT6 47 (by decide +kernel) rfl) hc ⟨by decide, by decide, rfl⟩ rfl rfl (Nat.le_of_ble_eq_true rfl) (by have h9 : 3 ≤ 20 := (by decide); omega) (Nat.le_of_ble_eq_true rfl) rfl ⟨by rw [hC.2.2.2.1]; exact Nat.le_refl _, by rw [hC.2.2.2.2]; exact Nat.le_refl _⟩ dL_value_5 (fun r V1 hp => ?_) (fun E V1 hE => ?_)
  · obtain ⟨x, rfl, hp⟩ := hp
    show J X (G16 (G.1, G.2.1, 0, 0)) 8 [vA 0, vI p0, vI p1, vA 87, vU] [vL x, vI 0, vA 87] V1
    refine j_last (n := 1) hX hG1 ⟨by decide, by decide, rfl, rfl⟩ ⟨by decide, by decide⟩ dL_value_8 ?_
    refine j_goto (tgt := 20) hX dL_value_9 (by decide) ?_
    refine j_iconst hX dL_value_20 ⟨by decide, by decide⟩ ?_
    exact j_retI hR dL_value_21 (Or.inl ⟨x, V1, hp, rfl, rfl⟩)
  · have hE9 := hx E V1 hE
    rcases hE9 with rfl | rfl
    · refine ⟨12, ⟨[], ⟨0, 9, 12, 19⟩, [⟨0, 9, 16, 25⟩], exB, hC.2.2.1.trans rfl, (fun z hz => by cases hz), by decide, by show (19 : Nat) ≠ 0; decide, hX.ts _ ct_19, xc_exB hC.2.1 _, rfl⟩, fun q => ?_⟩
      refine j_as4 hX dL_value_12 (by show isR (8, (q : Int) + 1) = true; simp [isR]; omega) rfl ?_
      refine j_iconst hX dL_value_14 ⟨by decide, by decide⟩ ?_
      exact j_retI hR dL_value_15 (Or.inr (Or.inl ⟨hE, rfl⟩))
    · refine ⟨16, ⟨[⟨0, 9, 12, 19⟩], ⟨0, 9, 16, 25⟩, [], exA, hC.2.2.1.trans rfl, (fun z hz => by
        simp only [List.mem_cons, List.not_mem_nil, or_false] at hz
        subst hz
        · exact Or.inr ⟨by show (19 : Nat) ≠ 0; decide, exB, hX.ts _ ct_19, hC.2.1.2 (exA, exB) (by simp [XNp])⟩), by decide, by show (25 : Nat) ≠ 0; decide, hX.ts _ ct_25, xc_exA hC.2.1 _, rfl⟩, fun q => ?_⟩
      refine j_as4 hX dL_value_16 (by show isR (8, (q : Int) + 1) = true; simp [isR]; omega) rfl ?_
      refine j_iconst hX dL_value_18 ⟨by decide, by decide⟩ ?_
      exact j_retI hR dL_value_19 (Or.inr (Or.inr ⟨hE, rfl⟩))
theorem wr_cell {V : VV} {p0 : Int} {P : Int → VV → Prop} {XP : String → VV → Prop} {lo9 : Nat} (hlo9 : lo9 ≤ 200) (hc : OkX yX11_cell cX11_cell 2 (some .int) 8 lo9 [vA 0, vI p0] V (pI P) XP) (hx : ∀ E V', XP E V' → E = exB) : OkC yL_cell cL_cell 4 (some .int) [(0, 9, 12, 19)] 9 300 [vA 0, vI p0, vA 87] V (pI (fun k V' => (∃ x V1, P x V1 ∧ V' = up V1 87 0 x ∧ k = 0) ∨ (XP exB V' ∧ k = 1))) := by
  refine OkC.intro (by decide +kernel) (Nat.le_of_ble_eq_true rfl) (fun X G hX hG hR hC hoa hoV => ?_)
  show J X (G.1, G.2.1, 0, 0) 0 [vA 0, vI p0, vA 87, vU] [] V
  refine j_al2 hX dL_cell_0 rfl ?_
  refine j_iconst hX dL_cell_1 ⟨by decide, by decide⟩ ?_
  refine j_al0 hX dL_cell_2 rfl ?_
  refine j_il1 hX dL_cell_3 ?_
  have hG1 : gOK NA (G16 (G.1, G.2.1, 0, 0)) := hG
  refine j_callX (as := [vI p0]) (T := TX11) (N := 15) hX hG hC.1 hC.2.1 lk_L_67 (inT6 61 (by decide +kernel) rfl) hc ⟨by decide, by decide, rfl⟩ rfl rfl (Nat.le_of_ble_eq_true rfl) (by have h9 : 2 ≤ 20 := (by decide); omega) (Nat.le_of_ble_eq_true rfl) rfl ⟨by rw [hC.2.2.2.1]; exact Nat.le_refl _, by rw [hC.2.2.2.2]; exact Nat.le_refl _⟩ dL_cell_4 (fun r V1 hp => ?_) (fun E V1 hE => ?_)
  · obtain ⟨x, rfl, hp⟩ := hp
    show J X (G16 (G.1, G.2.1, 0, 0)) 7 [vA 0, vI p0, vA 87, vU] [vI x, vI 0, vA 87] V1
    refine j_i2l hX dL_cell_7 ?_
    refine j_last (n := 1) hX hG1 ⟨by decide, by decide, rfl, rfl⟩ ⟨by decide, by decide⟩ dL_cell_8 ?_
    refine j_goto (tgt := 15) hX dL_cell_9 (by decide) ?_
    refine j_iconst hX dL_cell_15 ⟨by decide, by decide⟩ ?_
    exact j_retI hR dL_cell_16 (Or.inl ⟨x, V1, hp, rfl, rfl⟩)
  · have hE9 := hx E V1 hE
    subst hE9
    · refine ⟨12, ⟨[], ⟨0, 9, 12, 19⟩, [], exB, hC.2.2.1.trans rfl, (fun z hz => by cases hz), by decide, by show (19 : Nat) ≠ 0; decide, hX.ts _ ct_19, xc_exB hC.2.1 _, rfl⟩, fun q => ?_⟩
      refine j_as3 hX dL_cell_12 (by show isR (8, (q : Int) + 1) = true; simp [isR]; omega) rfl ?_
      refine j_iconst hX dL_cell_13 ⟨by decide, by decide⟩ ?_
      exact j_retI hR dL_cell_14 (Or.inr ⟨hE, rfl⟩)
theorem wr_preimage {V : VV} {p0 : Int} {P : Int → VV → Prop} {XP : String → VV → Prop} {lo9 : Nat} (hlo9 : lo9 ≤ 200) (hc : OkX yX11_preimage cX11_preimage 2 (some .int) 8 lo9 [vA 0, vI p0] V (pI P) XP) (hx : ∀ E V', XP E V' → E = exB ∨ E = exN) : OkC yL_preimage cL_preimage 4 (some .int) [(0, 9, 12, 19), (0, 9, 15, 51)] 9 300 [vA 0, vI p0, vA 87] V (pI (fun k V' => (∃ x V1, P x V1 ∧ V' = up V1 87 0 x ∧ k = 0) ∨ (XP exB V' ∧ k = 1) ∨ (XP exN V' ∧ k = 2))) := by
  refine OkC.intro (by decide +kernel) (Nat.le_of_ble_eq_true rfl) (fun X G hX hG hR hC hoa hoV => ?_)
  show J X (G.1, G.2.1, 0, 0) 0 [vA 0, vI p0, vA 87, vU] [] V
  refine j_al2 hX dL_preimage_0 rfl ?_
  refine j_iconst hX dL_preimage_1 ⟨by decide, by decide⟩ ?_
  refine j_al0 hX dL_preimage_2 rfl ?_
  refine j_il1 hX dL_preimage_3 ?_
  have hG1 : gOK NA (G16 (G.1, G.2.1, 0, 0)) := hG
  refine j_callX (as := [vI p0]) (T := TX11) (N := 15) hX hG hC.1 hC.2.1 lk_L_70 (inT6 73 (by decide +kernel) rfl) hc ⟨by decide, by decide, rfl⟩ rfl rfl (Nat.le_of_ble_eq_true rfl) (by have h9 : 2 ≤ 20 := (by decide); omega) (Nat.le_of_ble_eq_true rfl) rfl ⟨by rw [hC.2.2.2.1]; exact Nat.le_refl _, by rw [hC.2.2.2.2]; exact Nat.le_refl _⟩ dL_preimage_4 (fun r V1 hp => ?_) (fun E V1 hE => ?_)
  · obtain ⟨x, rfl, hp⟩ := hp
    show J X (G16 (G.1, G.2.1, 0, 0)) 7 [vA 0, vI p0, vA 87, vU] [vI x, vI 0, vA 87] V1
    refine j_i2l hX dL_preimage_7 ?_
    refine j_last (n := 1) hX hG1 ⟨by decide, by decide, rfl, rfl⟩ ⟨by decide, by decide⟩ dL_preimage_8 ?_
    refine j_goto (tgt := 18) hX dL_preimage_9 (by decide) ?_
    refine j_iconst hX dL_preimage_18 ⟨by decide, by decide⟩ ?_
    exact j_retI hR dL_preimage_19 (Or.inl ⟨x, V1, hp, rfl, rfl⟩)
  · have hE9 := hx E V1 hE
    rcases hE9 with rfl | rfl
    · refine ⟨12, ⟨[], ⟨0, 9, 12, 19⟩, [⟨0, 9, 15, 51⟩], exB, hC.2.2.1.trans rfl, (fun z hz => by cases hz), by decide, by show (19 : Nat) ≠ 0; decide, hX.ts _ ct_19, xc_exB hC.2.1 _, rfl⟩, fun q => ?_⟩
      refine j_as3 hX dL_preimage_12 (by show isR (8, (q : Int) + 1) = true; simp [isR]; omega) rfl ?_
      refine j_iconst hX dL_preimage_13 ⟨by decide, by decide⟩ ?_
      exact j_retI hR dL_preimage_14 (Or.inr (Or.inl ⟨hE, rfl⟩))
    · refine ⟨15, ⟨[⟨0, 9, 12, 19⟩], ⟨0, 9, 15, 51⟩, [], exN, hC.2.2.1.trans rfl, (fun z hz => by
        simp only [List.mem_cons, List.not_mem_nil, or_false] at hz
        subst hz
        · exact Or.inr ⟨by show (19 : Nat) ≠ 0; decide, exB, hX.ts _ ct_19, hC.2.1.2 (exN, exB) (by simp [XNp])⟩), by decide, by show (51 : Nat) ≠ 0; decide, hX.ts _ ct_51, xc_exN hC.2.1 _, rfl⟩, fun q => ?_⟩
      refine j_as3 hX dL_preimage_15 (by show isR (8, (q : Int) + 1) = true; simp [isR]; omega) rfl ?_
      refine j_iconst hX dL_preimage_16 ⟨by decide, by decide⟩ ?_
      exact j_retI hR dL_preimage_17 (Or.inr (Or.inr ⟨hE, rfl⟩))
theorem wr_cycle {V : VV} {p0 : Int} {P : Int → VV → Prop} {XP : String → VV → Prop} {lo9 : Nat} (hlo9 : lo9 ≤ 200) (hc : OkX yX11_cycle cX11_cycle 2 (some .int) 8 lo9 [vA 0, vI p0] V (pI P) XP) (hx : ∀ E V', XP E V' → E = exA ∨ E = exN) : OkC yL_cycle cL_cycle 4 (some .int) [(0, 9, 12, 25), (0, 9, 15, 51)] 9 300 [vA 0, vI p0, vA 87] V (pI (fun k V' => (∃ x V1, P x V1 ∧ V' = up V1 87 0 x ∧ k = 0) ∨ (XP exA V' ∧ k = 1) ∨ (XP exN V' ∧ k = 2))) := by
  refine OkC.intro (by decide +kernel) (Nat.le_of_ble_eq_true rfl) (fun X G hX hG hR hC hoa hoV => ?_)
  show J X (G.1, G.2.1, 0, 0) 0 [vA 0, vI p0, vA 87, vU] [] V
  refine j_al2 hX dL_cycle_0 rfl ?_
  refine j_iconst hX dL_cycle_1 ⟨by decide, by decide⟩ ?_
  refine j_al0 hX dL_cycle_2 rfl ?_
  refine j_il1 hX dL_cycle_3 ?_
  have hG1 : gOK NA (G16 (G.1, G.2.1, 0, 0)) := hG
  refine j_callX (as := [vI p0]) (T := TX11) (N := 15) hX hG hC.1 hC.2.1 lk_L_73 (inT6 98 (by decide +kernel) rfl) hc ⟨by decide, by decide, rfl⟩ rfl rfl (Nat.le_of_ble_eq_true rfl) (by have h9 : 2 ≤ 20 := (by decide); omega) (Nat.le_of_ble_eq_true rfl) rfl ⟨by rw [hC.2.2.2.1]; exact Nat.le_refl _, by rw [hC.2.2.2.2]; exact Nat.le_refl _⟩ dL_cycle_4 (fun r V1 hp => ?_) (fun E V1 hE => ?_)
  · obtain ⟨x, rfl, hp⟩ := hp
    show J X (G16 (G.1, G.2.1, 0, 0)) 7 [vA 0, vI p0, vA 87, vU] [vI x, vI 0, vA 87] V1
    refine j_i2l hX dL_cycle_7 ?_
    refine j_last (n := 1) hX hG1 ⟨by decide, by decide, rfl, rfl⟩ ⟨by decide, by decide⟩ dL_cycle_8 ?_
    refine j_goto (tgt := 18) hX dL_cycle_9 (by decide) ?_
    refine j_iconst hX dL_cycle_18 ⟨by decide, by decide⟩ ?_
    exact j_retI hR dL_cycle_19 (Or.inl ⟨x, V1, hp, rfl, rfl⟩)
  · have hE9 := hx E V1 hE
    rcases hE9 with rfl | rfl
    · refine ⟨12, ⟨[], ⟨0, 9, 12, 25⟩, [⟨0, 9, 15, 51⟩], exA, hC.2.2.1.trans rfl, (fun z hz => by cases hz), by decide, by show (25 : Nat) ≠ 0; decide, hX.ts _ ct_25, xc_exA hC.2.1 _, rfl⟩, fun q => ?_⟩
      refine j_as3 hX dL_cycle_12 (by show isR (8, (q : Int) + 1) = true; simp [isR]; omega) rfl ?_
      refine j_iconst hX dL_cycle_13 ⟨by decide, by decide⟩ ?_
      exact j_retI hR dL_cycle_14 (Or.inr (Or.inl ⟨hE, rfl⟩))
    · refine ⟨15, ⟨[⟨0, 9, 12, 25⟩], ⟨0, 9, 15, 51⟩, [], exN, hC.2.2.1.trans rfl, (fun z hz => by
        simp only [List.mem_cons, List.not_mem_nil, or_false] at hz
        subst hz
        · exact Or.inr ⟨by show (25 : Nat) ≠ 0; decide, exA, hX.ts _ ct_25, hC.2.1.2 (exN, exA) (by simp [XNp])⟩), by decide, by show (51 : Nat) ≠ 0; decide, hX.ts _ ct_51, xc_exN hC.2.1 _, rfl⟩, fun q => ?_⟩
      refine j_as3 hX dL_cycle_15 (by show isR (8, (q : Int) + 1) = true; simp [isR]; omega) rfl ?_
      refine j_iconst hX dL_cycle_16 ⟨by decide, by decide⟩ ?_
      exact j_retI hR dL_cycle_17 (Or.inr (Or.inr ⟨hE, rfl⟩))
theorem wr_fixed {V : VV} {p0 : Int} {P : Int → VV → Prop} {XP : String → VV → Prop} {lo9 : Nat} (hlo9 : lo9 ≤ 200) (hc : OkX yX11_fixed cX11_fixed 2 (some .long) 8 lo9 [vA 0, vI p0] V (pL P) XP) (hx : ∀ E V', XP E V' → E = exA) : OkC yL_fixed cL_fixed 4 (some .int) [(0, 8, 11, 25)] 9 300 [vA 0, vI p0, vA 87] V (pI (fun k V' => (∃ x V1, P x V1 ∧ V' = up V1 87 0 x ∧ k = 0) ∨ (XP exA V' ∧ k = 1))) := by
  refine OkC.intro (by decide +kernel) (Nat.le_of_ble_eq_true rfl) (fun X G hX hG hR hC hoa hoV => ?_)
  show J X (G.1, G.2.1, 0, 0) 0 [vA 0, vI p0, vA 87, vU] [] V
  refine j_al2 hX dL_fixed_0 rfl ?_
  refine j_iconst hX dL_fixed_1 ⟨by decide, by decide⟩ ?_
  refine j_al0 hX dL_fixed_2 rfl ?_
  refine j_il1 hX dL_fixed_3 ?_
  have hG1 : gOK NA (G16 (G.1, G.2.1, 0, 0)) := hG
  refine j_callX (as := [vI p0]) (T := TX11) (N := 15) hX hG hC.1 hC.2.1 lk_L_76 (inT6 133 (by decide +kernel) rfl) hc ⟨by decide, by decide, rfl⟩ rfl rfl (Nat.le_of_ble_eq_true rfl) (by have h9 : 2 ≤ 20 := (by decide); omega) (Nat.le_of_ble_eq_true rfl) rfl ⟨by rw [hC.2.2.2.1]; exact Nat.le_refl _, by rw [hC.2.2.2.2]; exact Nat.le_refl _⟩ dL_fixed_4 (fun r V1 hp => ?_) (fun E V1 hE => ?_)
  · obtain ⟨x, rfl, hp⟩ := hp
    show J X (G16 (G.1, G.2.1, 0, 0)) 7 [vA 0, vI p0, vA 87, vU] [vL x, vI 0, vA 87] V1
    refine j_last (n := 1) hX hG1 ⟨by decide, by decide, rfl, rfl⟩ ⟨by decide, by decide⟩ dL_fixed_7 ?_
    refine j_goto (tgt := 14) hX dL_fixed_8 (by decide) ?_
    refine j_iconst hX dL_fixed_14 ⟨by decide, by decide⟩ ?_
    exact j_retI hR dL_fixed_15 (Or.inl ⟨x, V1, hp, rfl, rfl⟩)
  · have hE9 := hx E V1 hE
    subst hE9
    · refine ⟨11, ⟨[], ⟨0, 8, 11, 25⟩, [], exA, hC.2.2.1.trans rfl, (fun z hz => by cases hz), by decide, by show (25 : Nat) ≠ 0; decide, hX.ts _ ct_25, xc_exA hC.2.1 _, rfl⟩, fun q => ?_⟩
      refine j_as3 hX dL_fixed_11 (by show isR (8, (q : Int) + 1) = true; simp [isR]; omega) rfl ?_
      refine j_iconst hX dL_fixed_12 ⟨by decide, by decide⟩ ?_
      exact j_retI hR dL_fixed_13 (Or.inr ⟨hE, rfl⟩)
theorem wr_kernel {V : VV} {p0 : Int} {P : Int → VV → Prop} {XP : String → VV → Prop} {lo9 : Nat} (hlo9 : lo9 ≤ 200) (hc : OkX yX11_kernel cX11_kernel 2 (some .long) 8 lo9 [vA 0, vI p0] V (pL P) XP) (hx : ∀ E V', XP E V' → E = exA) : OkC yL_kernel cL_kernel 4 (some .int) [(0, 8, 11, 25)] 9 300 [vA 0, vI p0, vA 87] V (pI (fun k V' => (∃ x V1, P x V1 ∧ V' = up V1 87 0 x ∧ k = 0) ∨ (XP exA V' ∧ k = 1))) := by
  refine OkC.intro (by decide +kernel) (Nat.le_of_ble_eq_true rfl) (fun X G hX hG hR hC hoa hoV => ?_)
  show J X (G.1, G.2.1, 0, 0) 0 [vA 0, vI p0, vA 87, vU] [] V
  refine j_al2 hX dL_kernel_0 rfl ?_
  refine j_iconst hX dL_kernel_1 ⟨by decide, by decide⟩ ?_
  refine j_al0 hX dL_kernel_2 rfl ?_
  refine j_il1 hX dL_kernel_3 ?_
  have hG1 : gOK NA (G16 (G.1, G.2.1, 0, 0)) := hG
  refine j_callX (as := [vI p0]) (T := TX11) (N := 15) hX hG hC.1 hC.2.1 lk_L_80 (inT6 150 (by decide +kernel) rfl) hc ⟨by decide, by decide, rfl⟩ rfl rfl (Nat.le_of_ble_eq_true rfl) (by have h9 : 2 ≤ 20 := (by decide); omega) (Nat.le_of_ble_eq_true rfl) rfl ⟨by rw [hC.2.2.2.1]; exact Nat.le_refl _, by rw [hC.2.2.2.2]; exact Nat.le_refl _⟩ dL_kernel_4 (fun r V1 hp => ?_) (fun E V1 hE => ?_)
  · obtain ⟨x, rfl, hp⟩ := hp
    show J X (G16 (G.1, G.2.1, 0, 0)) 7 [vA 0, vI p0, vA 87, vU] [vL x, vI 0, vA 87] V1
    refine j_last (n := 1) hX hG1 ⟨by decide, by decide, rfl, rfl⟩ ⟨by decide, by decide⟩ dL_kernel_7 ?_
    refine j_goto (tgt := 14) hX dL_kernel_8 (by decide) ?_
    refine j_iconst hX dL_kernel_14 ⟨by decide, by decide⟩ ?_
    exact j_retI hR dL_kernel_15 (Or.inl ⟨x, V1, hp, rfl, rfl⟩)
  · have hE9 := hx E V1 hE
    subst hE9
    · refine ⟨11, ⟨[], ⟨0, 8, 11, 25⟩, [], exA, hC.2.2.1.trans rfl, (fun z hz => by cases hz), by decide, by show (25 : Nat) ≠ 0; decide, hX.ts _ ct_25, xc_exA hC.2.1 _, rfl⟩, fun q => ?_⟩
      refine j_as3 hX dL_kernel_11 (by show isR (8, (q : Int) + 1) = true; simp [isR]; omega) rfl ?_
      refine j_iconst hX dL_kernel_12 ⟨by decide, by decide⟩ ?_
      exact j_retI hR dL_kernel_13 (Or.inr ⟨hE, rfl⟩)
theorem wr_step {V : VV} {p0 : Int} {P : Int → VV → Prop} {XP : String → VV → Prop} {lo9 : Nat} (hlo9 : lo9 ≤ 200) (hc : OkX yX11_step cX11_step 3 (some .int) 8 lo9 [vA 0, vI p0] V (pI P) XP) (hx : ∀ E V', XP E V' → E = exA) : OkC yL_step cL_step 4 (some .int) [(0, 9, 12, 25)] 9 300 [vA 0, vI p0, vA 87] V (pI (fun k V' => (∃ x V1, P x V1 ∧ V' = up V1 87 0 x ∧ k = 0) ∨ (XP exA V' ∧ k = 1))) := by
  refine OkC.intro (by decide +kernel) (Nat.le_of_ble_eq_true rfl) (fun X G hX hG hR hC hoa hoV => ?_)
  show J X (G.1, G.2.1, 0, 0) 0 [vA 0, vI p0, vA 87, vU] [] V
  refine j_al2 hX dL_step_0 rfl ?_
  refine j_iconst hX dL_step_1 ⟨by decide, by decide⟩ ?_
  refine j_al0 hX dL_step_2 rfl ?_
  refine j_il1 hX dL_step_3 ?_
  have hG1 : gOK NA (G16 (G.1, G.2.1, 0, 0)) := hG
  refine j_callX (as := [vI p0]) (T := TX11) (N := 15) hX hG hC.1 hC.2.1 lk_L_83 (inT6 157 (by decide +kernel) rfl) hc ⟨by decide, by decide, rfl⟩ rfl rfl (Nat.le_of_ble_eq_true rfl) (by have h9 : 3 ≤ 20 := (by decide); omega) (Nat.le_of_ble_eq_true rfl) rfl ⟨by rw [hC.2.2.2.1]; exact Nat.le_refl _, by rw [hC.2.2.2.2]; exact Nat.le_refl _⟩ dL_step_4 (fun r V1 hp => ?_) (fun E V1 hE => ?_)
  · obtain ⟨x, rfl, hp⟩ := hp
    show J X (G16 (G.1, G.2.1, 0, 0)) 7 [vA 0, vI p0, vA 87, vU] [vI x, vI 0, vA 87] V1
    refine j_i2l hX dL_step_7 ?_
    refine j_last (n := 1) hX hG1 ⟨by decide, by decide, rfl, rfl⟩ ⟨by decide, by decide⟩ dL_step_8 ?_
    refine j_goto (tgt := 15) hX dL_step_9 (by decide) ?_
    refine j_iconst hX dL_step_15 ⟨by decide, by decide⟩ ?_
    exact j_retI hR dL_step_16 (Or.inl ⟨x, V1, hp, rfl, rfl⟩)
  · have hE9 := hx E V1 hE
    subst hE9
    · refine ⟨12, ⟨[], ⟨0, 9, 12, 25⟩, [], exA, hC.2.2.1.trans rfl, (fun z hz => by cases hz), by decide, by show (25 : Nat) ≠ 0; decide, hX.ts _ ct_25, xc_exA hC.2.1 _, rfl⟩, fun q => ?_⟩
      refine j_as3 hX dL_step_12 (by show isR (8, (q : Int) + 1) = true; simp [isR]; omega) rfl ?_
      refine j_iconst hX dL_step_13 ⟨by decide, by decide⟩ ?_
      exact j_retI hR dL_step_14 (Or.inr ⟨hE, rfl⟩)
theorem wr_back {V : VV} {p0 : Int} {P : Int → VV → Prop} {XP : String → VV → Prop} {lo9 : Nat} (hlo9 : lo9 ≤ 200) (hc : OkX yX11_back cX11_back 3 (some .int) 8 lo9 [vA 0, vI p0] V (pI P) XP) (hx : ∀ E V', XP E V' → E = exA ∨ E = exN ∨ E = exS) : OkC yL_back cL_back 4 (some .int) [(0, 9, 12, 25), (0, 9, 15, 51), (0, 9, 18, 13)] 9 300 [vA 0, vI p0, vA 87] V (pI (fun k V' => (∃ x V1, P x V1 ∧ V' = up V1 87 0 x ∧ k = 0) ∨ (XP exA V' ∧ k = 1) ∨ (XP exN V' ∧ k = 2) ∨ (XP exS V' ∧ k = 3))) := by
  refine OkC.intro (by decide +kernel) (Nat.le_of_ble_eq_true rfl) (fun X G hX hG hR hC hoa hoV => ?_)
  show J X (G.1, G.2.1, 0, 0) 0 [vA 0, vI p0, vA 87, vU] [] V
  refine j_al2 hX dL_back_0 rfl ?_
  refine j_iconst hX dL_back_1 ⟨by decide, by decide⟩ ?_
  refine j_al0 hX dL_back_2 rfl ?_
  refine j_il1 hX dL_back_3 ?_
  have hG1 : gOK NA (G16 (G.1, G.2.1, 0, 0)) := hG
  refine j_callX (as := [vI p0]) (T := TX11) (N := 15) hX hG hC.1 hC.2.1 lk_L_86 (inT6 174 (by decide +kernel) rfl) hc ⟨by decide, by decide, rfl⟩ rfl rfl (Nat.le_of_ble_eq_true rfl) (by have h9 : 3 ≤ 20 := (by decide); omega) (Nat.le_of_ble_eq_true rfl) rfl ⟨by rw [hC.2.2.2.1]; exact Nat.le_refl _, by rw [hC.2.2.2.2]; exact Nat.le_refl _⟩ dL_back_4 (fun r V1 hp => ?_) (fun E V1 hE => ?_)
  · obtain ⟨x, rfl, hp⟩ := hp
    show J X (G16 (G.1, G.2.1, 0, 0)) 7 [vA 0, vI p0, vA 87, vU] [vI x, vI 0, vA 87] V1
    refine j_i2l hX dL_back_7 ?_
    refine j_last (n := 1) hX hG1 ⟨by decide, by decide, rfl, rfl⟩ ⟨by decide, by decide⟩ dL_back_8 ?_
    refine j_goto (tgt := 21) hX dL_back_9 (by decide) ?_
    refine j_iconst hX dL_back_21 ⟨by decide, by decide⟩ ?_
    exact j_retI hR dL_back_22 (Or.inl ⟨x, V1, hp, rfl, rfl⟩)
  · have hE9 := hx E V1 hE
    rcases hE9 with rfl | rfl | rfl
    · refine ⟨12, ⟨[], ⟨0, 9, 12, 25⟩, [⟨0, 9, 15, 51⟩, ⟨0, 9, 18, 13⟩], exA, hC.2.2.1.trans rfl, (fun z hz => by cases hz), by decide, by show (25 : Nat) ≠ 0; decide, hX.ts _ ct_25, xc_exA hC.2.1 _, rfl⟩, fun q => ?_⟩
      refine j_as3 hX dL_back_12 (by show isR (8, (q : Int) + 1) = true; simp [isR]; omega) rfl ?_
      refine j_iconst hX dL_back_13 ⟨by decide, by decide⟩ ?_
      exact j_retI hR dL_back_14 (Or.inr (Or.inl ⟨hE, rfl⟩))
    · refine ⟨15, ⟨[⟨0, 9, 12, 25⟩], ⟨0, 9, 15, 51⟩, [⟨0, 9, 18, 13⟩], exN, hC.2.2.1.trans rfl, (fun z hz => by
        simp only [List.mem_cons, List.not_mem_nil, or_false] at hz
        subst hz
        · exact Or.inr ⟨by show (25 : Nat) ≠ 0; decide, exA, hX.ts _ ct_25, hC.2.1.2 (exN, exA) (by simp [XNp])⟩), by decide, by show (51 : Nat) ≠ 0; decide, hX.ts _ ct_51, xc_exN hC.2.1 _, rfl⟩, fun q => ?_⟩
      refine j_as3 hX dL_back_15 (by show isR (8, (q : Int) + 1) = true; simp [isR]; omega) rfl ?_
      refine j_iconst hX dL_back_16 ⟨by decide, by decide⟩ ?_
      exact j_retI hR dL_back_17 (Or.inr (Or.inr (Or.inl ⟨hE, rfl⟩)))
    · refine ⟨18, ⟨[⟨0, 9, 12, 25⟩, ⟨0, 9, 15, 51⟩], ⟨0, 9, 18, 13⟩, [], exS, hC.2.2.1.trans rfl, (fun z hz => by
        simp only [List.mem_cons, List.not_mem_nil, or_false] at hz
        rcases hz with rfl | rfl
        · exact Or.inr ⟨by show (25 : Nat) ≠ 0; decide, exA, hX.ts _ ct_25, hC.2.1.2 (exS, exA) (by simp [XNp])⟩
        · exact Or.inr ⟨by show (51 : Nat) ≠ 0; decide, exN, hX.ts _ ct_51, hC.2.1.2 (exS, exN) (by simp [XNp])⟩), by decide, by show (13 : Nat) ≠ 0; decide, hX.ts _ ct_13, xc_exS hC.2.1 _, rfl⟩, fun q => ?_⟩
      refine j_as3 hX dL_back_18 (by show isR (8, (q : Int) + 1) = true; simp [isR]; omega) rfl ?_
      refine j_iconst hX dL_back_19 ⟨by decide, by decide⟩ ?_
      exact j_retI hR dL_back_20 (Or.inr (Or.inr (Or.inr ⟨hE, rfl⟩)))
theorem wr_set {V : VV} {p0 p1 : Int} {P : Int → VV → Prop} {XP : String → VV → Prop} {lo9 : Nat} (hlo9 : lo9 ≤ 200) (hc : OkX yX11_set cX11_set 4 (some .int) 8 lo9 [vA 0, vI p0, vI p1] V (pI P) XP) (hx : ∀ E V', XP E V' → E = exB) : OkC yL_set cL_set 5 (some .int) [(0, 10, 13, 19)] 9 300 [vA 0, vI p0, vI p1, vA 87] V (pI (fun k V' => (∃ x V1, P x V1 ∧ V' = up V1 87 0 x ∧ k = 0) ∨ (XP exB V' ∧ k = 1))) := by
  refine OkC.intro (by decide +kernel) (Nat.le_of_ble_eq_true rfl) (fun X G hX hG hR hC hoa hoV => ?_)
  show J X (G.1, G.2.1, 0, 0) 0 [vA 0, vI p0, vI p1, vA 87, vU] [] V
  refine j_al3 hX dL_set_0 rfl ?_
  refine j_iconst hX dL_set_1 ⟨by decide, by decide⟩ ?_
  refine j_al0 hX dL_set_2 rfl ?_
  refine j_il1 hX dL_set_3 ?_
  refine j_il2 hX dL_set_4 ?_
  have hG1 : gOK NA (G16 (G.1, G.2.1, 0, 0)) := hG
  refine j_callX (as := [vI p0, vI p1]) (T := TX11) (N := 15) hX hG hC.1 hC.2.1 lk_L_89 (inT6 193 (by decide +kernel) rfl) hc ⟨by decide, by decide, rfl⟩ rfl rfl (Nat.le_of_ble_eq_true rfl) (by have h9 : 4 ≤ 20 := (by decide); omega) (Nat.le_of_ble_eq_true rfl) rfl ⟨by rw [hC.2.2.2.1]; exact Nat.le_refl _, by rw [hC.2.2.2.2]; exact Nat.le_refl _⟩ dL_set_5 (fun r V1 hp => ?_) (fun E V1 hE => ?_)
  · obtain ⟨x, rfl, hp⟩ := hp
    show J X (G16 (G.1, G.2.1, 0, 0)) 8 [vA 0, vI p0, vI p1, vA 87, vU] [vI x, vI 0, vA 87] V1
    refine j_i2l hX dL_set_8 ?_
    refine j_last (n := 1) hX hG1 ⟨by decide, by decide, rfl, rfl⟩ ⟨by decide, by decide⟩ dL_set_9 ?_
    refine j_goto (tgt := 17) hX dL_set_10 (by decide) ?_
    refine j_iconst hX dL_set_17 ⟨by decide, by decide⟩ ?_
    exact j_retI hR dL_set_18 (Or.inl ⟨x, V1, hp, rfl, rfl⟩)
  · have hE9 := hx E V1 hE
    subst hE9
    · refine ⟨13, ⟨[], ⟨0, 10, 13, 19⟩, [], exB, hC.2.2.1.trans rfl, (fun z hz => by cases hz), by decide, by show (19 : Nat) ≠ 0; decide, hX.ts _ ct_19, xc_exB hC.2.1 _, rfl⟩, fun q => ?_⟩
      refine j_as4 hX dL_set_13 (by show isR (8, (q : Int) + 1) = true; simp [isR]; omega) rfl ?_
      refine j_iconst hX dL_set_15 ⟨by decide, by decide⟩ ?_
      exact j_retI hR dL_set_16 (Or.inr ⟨hE, rfl⟩)
theorem wr_grow {V : VV} {p0 : Int} {P : Int → VV → Prop} {XP : String → VV → Prop} {lo9 : Nat} (hlo9 : lo9 ≤ 200) (hc : OkX yX11_grow cX11_grow 2 (some .int) 8 lo9 [vA 0, vI p0] V (pI P) XP) (hx : ∀ E V', XP E V' → E = exB ∨ E = exS) : OkC yL_grow cL_grow 4 (some .int) [(0, 9, 12, 19), (0, 9, 15, 13)] 9 300 [vA 0, vI p0, vA 87] V (pI (fun k V' => (∃ x V1, P x V1 ∧ V' = up V1 87 0 x ∧ k = 0) ∨ (XP exB V' ∧ k = 1) ∨ (XP exS V' ∧ k = 2))) := by
  refine OkC.intro (by decide +kernel) (Nat.le_of_ble_eq_true rfl) (fun X G hX hG hR hC hoa hoV => ?_)
  show J X (G.1, G.2.1, 0, 0) 0 [vA 0, vI p0, vA 87, vU] [] V
  refine j_al2 hX dL_grow_0 rfl ?_
  refine j_iconst hX dL_grow_1 ⟨by decide, by decide⟩ ?_
  refine j_al0 hX dL_grow_2 rfl ?_
  refine j_il1 hX dL_grow_3 ?_
  have hG1 : gOK NA (G16 (G.1, G.2.1, 0, 0)) := hG
  refine j_callX (as := [vI p0]) (T := TX11) (N := 15) hX hG hC.1 hC.2.1 lk_L_92 (inT6 201 (by decide +kernel) rfl) hc ⟨by decide, by decide, rfl⟩ rfl rfl (Nat.le_of_ble_eq_true rfl) (by have h9 : 2 ≤ 20 := (by decide); omega) (Nat.le_of_ble_eq_true rfl) rfl ⟨by rw [hC.2.2.2.1]; exact Nat.le_refl _, by rw [hC.2.2.2.2]; exact Nat.le_refl _⟩ dL_grow_4 (fun r V1 hp => ?_) (fun E V1 hE => ?_)
  · obtain ⟨x, rfl, hp⟩ := hp
    show J X (G16 (G.1, G.2.1, 0, 0)) 7 [vA 0, vI p0, vA 87, vU] [vI x, vI 0, vA 87] V1
    refine j_i2l hX dL_grow_7 ?_
    refine j_last (n := 1) hX hG1 ⟨by decide, by decide, rfl, rfl⟩ ⟨by decide, by decide⟩ dL_grow_8 ?_
    refine j_goto (tgt := 18) hX dL_grow_9 (by decide) ?_
    refine j_iconst hX dL_grow_18 ⟨by decide, by decide⟩ ?_
    exact j_retI hR dL_grow_19 (Or.inl ⟨x, V1, hp, rfl, rfl⟩)
  · have hE9 := hx E V1 hE
    rcases hE9 with rfl | rfl
    · refine ⟨12, ⟨[], ⟨0, 9, 12, 19⟩, [⟨0, 9, 15, 13⟩], exB, hC.2.2.1.trans rfl, (fun z hz => by cases hz), by decide, by show (19 : Nat) ≠ 0; decide, hX.ts _ ct_19, xc_exB hC.2.1 _, rfl⟩, fun q => ?_⟩
      refine j_as3 hX dL_grow_12 (by show isR (8, (q : Int) + 1) = true; simp [isR]; omega) rfl ?_
      refine j_iconst hX dL_grow_13 ⟨by decide, by decide⟩ ?_
      exact j_retI hR dL_grow_14 (Or.inr (Or.inl ⟨hE, rfl⟩))
    · refine ⟨15, ⟨[⟨0, 9, 12, 19⟩], ⟨0, 9, 15, 13⟩, [], exS, hC.2.2.1.trans rfl, (fun z hz => by
        simp only [List.mem_cons, List.not_mem_nil, or_false] at hz
        subst hz
        · exact Or.inr ⟨by show (19 : Nat) ≠ 0; decide, exB, hX.ts _ ct_19, hC.2.1.2 (exS, exB) (by simp [XNp])⟩), by decide, by show (13 : Nat) ≠ 0; decide, hX.ts _ ct_13, xc_exS hC.2.1 _, rfl⟩, fun q => ?_⟩
      refine j_as3 hX dL_grow_15 (by show isR (8, (q : Int) + 1) = true; simp [isR]; omega) rfl ?_
      refine j_iconst hX dL_grow_16 ⟨by decide, by decide⟩ ?_
      exact j_retI hR dL_grow_17 (Or.inr (Or.inr ⟨hE, rfl⟩))
theorem wr_keep {V : VV} {p0 : Int} {P : Int → VV → Prop} {XP : String → VV → Prop} {lo9 : Nat} (hlo9 : lo9 ≤ 200) (hc : OkX yX11_keep cX11_keep 2 (some .int) 8 lo9 [vA 0, vI p0] V (pI P) XP) (hx : ∀ E V', XP E V' → E = exB) : OkC yL_keep cL_keep 4 (some .int) [(0, 9, 12, 19)] 9 300 [vA 0, vI p0, vA 87] V (pI (fun k V' => (∃ x V1, P x V1 ∧ V' = up V1 87 0 x ∧ k = 0) ∨ (XP exB V' ∧ k = 1))) := by
  refine OkC.intro (by decide +kernel) (Nat.le_of_ble_eq_true rfl) (fun X G hX hG hR hC hoa hoV => ?_)
  show J X (G.1, G.2.1, 0, 0) 0 [vA 0, vI p0, vA 87, vU] [] V
  refine j_al2 hX dL_keep_0 rfl ?_
  refine j_iconst hX dL_keep_1 ⟨by decide, by decide⟩ ?_
  refine j_al0 hX dL_keep_2 rfl ?_
  refine j_il1 hX dL_keep_3 ?_
  have hG1 : gOK NA (G16 (G.1, G.2.1, 0, 0)) := hG
  refine j_callX (as := [vI p0]) (T := TX11) (N := 15) hX hG hC.1 hC.2.1 lk_L_95 (inT6 209 (by decide +kernel) rfl) hc ⟨by decide, by decide, rfl⟩ rfl rfl (Nat.le_of_ble_eq_true rfl) (by have h9 : 2 ≤ 20 := (by decide); omega) (Nat.le_of_ble_eq_true rfl) rfl ⟨by rw [hC.2.2.2.1]; exact Nat.le_refl _, by rw [hC.2.2.2.2]; exact Nat.le_refl _⟩ dL_keep_4 (fun r V1 hp => ?_) (fun E V1 hE => ?_)
  · obtain ⟨x, rfl, hp⟩ := hp
    show J X (G16 (G.1, G.2.1, 0, 0)) 7 [vA 0, vI p0, vA 87, vU] [vI x, vI 0, vA 87] V1
    refine j_i2l hX dL_keep_7 ?_
    refine j_last (n := 1) hX hG1 ⟨by decide, by decide, rfl, rfl⟩ ⟨by decide, by decide⟩ dL_keep_8 ?_
    refine j_goto (tgt := 15) hX dL_keep_9 (by decide) ?_
    refine j_iconst hX dL_keep_15 ⟨by decide, by decide⟩ ?_
    exact j_retI hR dL_keep_16 (Or.inl ⟨x, V1, hp, rfl, rfl⟩)
  · have hE9 := hx E V1 hE
    subst hE9
    · refine ⟨12, ⟨[], ⟨0, 9, 12, 19⟩, [], exB, hC.2.2.1.trans rfl, (fun z hz => by cases hz), by decide, by show (19 : Nat) ≠ 0; decide, hX.ts _ ct_19, xc_exB hC.2.1 _, rfl⟩, fun q => ?_⟩
      refine j_as3 hX dL_keep_12 (by show isR (8, (q : Int) + 1) = true; simp [isR]; omega) rfl ?_
      refine j_iconst hX dL_keep_13 ⟨by decide, by decide⟩ ?_
      exact j_retI hR dL_keep_14 (Or.inr ⟨hE, rfl⟩)
theorem wr_multiply {V : VV} {p0 : Int} {P : Int → VV → Prop} {XP : String → VV → Prop} {lo9 : Nat} (hlo9 : lo9 ≤ 200) (hc : OkX yX11_multiply cX11_multiply 4 (some .int) 8 lo9 [vA 0, vI p0] V (pI P) XP) (hx : ∀ E V', XP E V' → E = exB ∨ E = exN ∨ E = exS) : OkC yL_multiply cL_multiply 4 (some .int) [(0, 9, 12, 19), (0, 9, 15, 51), (0, 9, 18, 13)] 9 300 [vA 0, vI p0, vA 87] V (pI (fun k V' => (∃ x V1, P x V1 ∧ V' = up V1 87 0 x ∧ k = 0) ∨ (XP exB V' ∧ k = 1) ∨ (XP exN V' ∧ k = 2) ∨ (XP exS V' ∧ k = 3))) := by
  refine OkC.intro (by decide +kernel) (Nat.le_of_ble_eq_true rfl) (fun X G hX hG hR hC hoa hoV => ?_)
  show J X (G.1, G.2.1, 0, 0) 0 [vA 0, vI p0, vA 87, vU] [] V
  refine j_al2 hX dL_multiply_0 rfl ?_
  refine j_iconst hX dL_multiply_1 ⟨by decide, by decide⟩ ?_
  refine j_al0 hX dL_multiply_2 rfl ?_
  refine j_il1 hX dL_multiply_3 ?_
  have hG1 : gOK NA (G16 (G.1, G.2.1, 0, 0)) := hG
  refine j_callX (as := [vI p0]) (T := TX11) (N := 15) hX hG hC.1 hC.2.1 lk_L_98 (inT6 221 (by decide +kernel) rfl) hc ⟨by decide, by decide, rfl⟩ rfl rfl (Nat.le_of_ble_eq_true rfl) (by have h9 : 4 ≤ 20 := (by decide); omega) (Nat.le_of_ble_eq_true rfl) rfl ⟨by rw [hC.2.2.2.1]; exact Nat.le_refl _, by rw [hC.2.2.2.2]; exact Nat.le_refl _⟩ dL_multiply_4 (fun r V1 hp => ?_) (fun E V1 hE => ?_)
  · obtain ⟨x, rfl, hp⟩ := hp
    show J X (G16 (G.1, G.2.1, 0, 0)) 7 [vA 0, vI p0, vA 87, vU] [vI x, vI 0, vA 87] V1
    refine j_i2l hX dL_multiply_7 ?_
    refine j_last (n := 1) hX hG1 ⟨by decide, by decide, rfl, rfl⟩ ⟨by decide, by decide⟩ dL_multiply_8 ?_
    refine j_goto (tgt := 21) hX dL_multiply_9 (by decide) ?_
    refine j_iconst hX dL_multiply_21 ⟨by decide, by decide⟩ ?_
    exact j_retI hR dL_multiply_22 (Or.inl ⟨x, V1, hp, rfl, rfl⟩)
  · have hE9 := hx E V1 hE
    rcases hE9 with rfl | rfl | rfl
    · refine ⟨12, ⟨[], ⟨0, 9, 12, 19⟩, [⟨0, 9, 15, 51⟩, ⟨0, 9, 18, 13⟩], exB, hC.2.2.1.trans rfl, (fun z hz => by cases hz), by decide, by show (19 : Nat) ≠ 0; decide, hX.ts _ ct_19, xc_exB hC.2.1 _, rfl⟩, fun q => ?_⟩
      refine j_as3 hX dL_multiply_12 (by show isR (8, (q : Int) + 1) = true; simp [isR]; omega) rfl ?_
      refine j_iconst hX dL_multiply_13 ⟨by decide, by decide⟩ ?_
      exact j_retI hR dL_multiply_14 (Or.inr (Or.inl ⟨hE, rfl⟩))
    · refine ⟨15, ⟨[⟨0, 9, 12, 19⟩], ⟨0, 9, 15, 51⟩, [⟨0, 9, 18, 13⟩], exN, hC.2.2.1.trans rfl, (fun z hz => by
        simp only [List.mem_cons, List.not_mem_nil, or_false] at hz
        subst hz
        · exact Or.inr ⟨by show (19 : Nat) ≠ 0; decide, exB, hX.ts _ ct_19, hC.2.1.2 (exN, exB) (by simp [XNp])⟩), by decide, by show (51 : Nat) ≠ 0; decide, hX.ts _ ct_51, xc_exN hC.2.1 _, rfl⟩, fun q => ?_⟩
      refine j_as3 hX dL_multiply_15 (by show isR (8, (q : Int) + 1) = true; simp [isR]; omega) rfl ?_
      refine j_iconst hX dL_multiply_16 ⟨by decide, by decide⟩ ?_
      exact j_retI hR dL_multiply_17 (Or.inr (Or.inr (Or.inl ⟨hE, rfl⟩)))
    · refine ⟨18, ⟨[⟨0, 9, 12, 19⟩, ⟨0, 9, 15, 51⟩], ⟨0, 9, 18, 13⟩, [], exS, hC.2.2.1.trans rfl, (fun z hz => by
        simp only [List.mem_cons, List.not_mem_nil, or_false] at hz
        rcases hz with rfl | rfl
        · exact Or.inr ⟨by show (19 : Nat) ≠ 0; decide, exB, hX.ts _ ct_19, hC.2.1.2 (exS, exB) (by simp [XNp])⟩
        · exact Or.inr ⟨by show (51 : Nat) ≠ 0; decide, exN, hX.ts _ ct_51, hC.2.1.2 (exS, exN) (by simp [XNp])⟩), by decide, by show (13 : Nat) ≠ 0; decide, hX.ts _ ct_13, xc_exS hC.2.1 _, rfl⟩, fun q => ?_⟩
      refine j_as3 hX dL_multiply_18 (by show isR (8, (q : Int) + 1) = true; simp [isR]; omega) rfl ?_
      refine j_iconst hX dL_multiply_19 ⟨by decide, by decide⟩ ?_
      exact j_retI hR dL_multiply_20 (Or.inr (Or.inr (Or.inr ⟨hE, rfl⟩)))
theorem wr_undo {V : VV} {P : Int → VV → Prop} {XP : String → VV → Prop} {lo9 : Nat} (hlo9 : lo9 ≤ 200) (hc : OkX yX11_undo cX11_undo 1 (some .int) 8 lo9 [vA 0] V (pI P) XP) (hx : ∀ E V', XP E V' → E = exS) : OkC yL_undo cL_undo 3 (some .int) [(0, 8, 11, 13)] 9 300 [vA 0, vA 87] V (pI (fun k V' => (∃ x V1, P x V1 ∧ V' = up V1 87 0 x ∧ k = 0) ∨ (XP exS V' ∧ k = 1))) := by
  refine OkC.intro (by decide +kernel) (Nat.le_of_ble_eq_true rfl) (fun X G hX hG hR hC hoa hoV => ?_)
  show J X (G.1, G.2.1, 0, 0) 0 [vA 0, vA 87, vU] [] V
  refine j_al1 hX dL_undo_0 rfl ?_
  refine j_iconst hX dL_undo_1 ⟨by decide, by decide⟩ ?_
  refine j_al0 hX dL_undo_2 rfl ?_
  have hG1 : gOK NA (G16 (G.1, G.2.1, 0, 0)) := hG
  refine j_callX (as := []) (T := TX11) (N := 15) hX hG hC.1 hC.2.1 lk_L_101 (inT6 230 (by decide +kernel) rfl) hc ⟨by decide, by decide, rfl⟩ rfl rfl (Nat.le_of_ble_eq_true rfl) (by have h9 : 1 ≤ 20 := (by decide); omega) (Nat.le_of_ble_eq_true rfl) rfl ⟨by rw [hC.2.2.2.1]; exact Nat.le_refl _, by rw [hC.2.2.2.2]; exact Nat.le_refl _⟩ dL_undo_3 (fun r V1 hp => ?_) (fun E V1 hE => ?_)
  · obtain ⟨x, rfl, hp⟩ := hp
    show J X (G16 (G.1, G.2.1, 0, 0)) 6 [vA 0, vA 87, vU] [vI x, vI 0, vA 87] V1
    refine j_i2l hX dL_undo_6 ?_
    refine j_last (n := 1) hX hG1 ⟨by decide, by decide, rfl, rfl⟩ ⟨by decide, by decide⟩ dL_undo_7 ?_
    refine j_goto (tgt := 14) hX dL_undo_8 (by decide) ?_
    refine j_iconst hX dL_undo_14 ⟨by decide, by decide⟩ ?_
    exact j_retI hR dL_undo_15 (Or.inl ⟨x, V1, hp, rfl, rfl⟩)
  · have hE9 := hx E V1 hE
    subst hE9
    · refine ⟨11, ⟨[], ⟨0, 8, 11, 13⟩, [], exS, hC.2.2.1.trans rfl, (fun z hz => by cases hz), by decide, by show (13 : Nat) ≠ 0; decide, hX.ts _ ct_13, xc_exS hC.2.1 _, rfl⟩, fun q => ?_⟩
      refine j_as2 hX dL_undo_11 (by show isR (8, (q : Int) + 1) = true; simp [isR]; omega) rfl ?_
      refine j_iconst hX dL_undo_12 ⟨by decide, by decide⟩ ?_
      exact j_retI hR dL_undo_13 (Or.inr ⟨hE, rfl⟩)
