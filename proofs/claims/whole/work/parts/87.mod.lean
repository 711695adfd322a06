/-- the model's ring one step back, cell k -/
def rowM (V : VV) (R : Int → Int) (k : Int) : Int := V 74 (codeF (V 55 1) (fun i => R ((k - V 55 40 + V 55 2 - 2 + i) % V 55 5)) (V 55 39).toNat)
theorem rowM_j {V : VV} {R : Int → Int} {j : Int} : rowM V R ((j + V 55 40) % V 55 5) = V 74 (codeF (V 55 1) (fun i => R ((j + V 55 2 - 2 + i) % V 55 5)) (V 55 39).toNat) := by
  unfold rowM
  congr 2
  funext i
  rw [show (j + V 55 40) % V 55 5 - V 55 40 + V 55 2 - 2 + i = (j + V 55 40) % V 55 5 + (- V 55 40 + V 55 2 - 2 + i) by omega, Int.emod_add_emod, show j + V 55 40 + (- V 55 40 + V 55 2 - 2 + i) = j + V 55 2 - 2 + i by omega]
theorem up_same {Y : VV} {k i p x : Int} {F : Int → Int} (h : Y k i = F i) (hx : F p = x) : (up Y k p x) k i = F i := by
  by_cases q : i = p
  · rw [q, up_s]; exact hx.symm
  · rw [up_n _ (fun r => q r.2)]; exact h
theorem cy_lt {i t : Int} (h : i ≤ t + 1) (hn : ¬ i = t + 1) : i < t + 1 := by omega
/-- how far the search for a ring that comes twice is -/
def CYF (E : Nat → Nat → Prop) (f t : Int) : Prop := (f = -1 ∧ ∀ i j : Nat, i < j → (j : Int) ≤ t → ¬ E i j) ∨ (0 ≤ f ∧ f < t ∧ E f.toNat t.toNat ∧ ∀ i j : Nat, i < j → (j : Int) < t → ¬ E i j)
theorem CYF_0 {E : Nat → Nat → Prop} : CYF E (-1) 0 := Or.inl ⟨rfl, fun i j a b => by omega⟩
theorem cy_in {E : Nat → Nat → Prop} {f t : Int} (h : CYF E f t) (hf : f = -1) : ∀ i j : Nat, i < j → (j : Int) ≤ t → ¬ E i j := h.elim (fun q => q.2) (fun q => by omega)
theorem CYF_s {E : Nat → Nat → Prop} {t i z : Int} (h : ∀ i j : Nat, i < j → (j : Int) ≤ t → ¬ E i j) (_ : 0 ≤ t) (_ : True ∨ t = t) (he : i ≤ t + 1 ∧ 0 ≤ i ∧ E i.toNat (t + 1).toNat ∧ ∀ j, 0 ≤ j → j < i → ¬ E j.toNat (t + 1).toNat) (hz : z = if i = t + 1 then -1 else i) : CYF E z (t + 1) := by
  obtain ⟨a, b, c, d⟩ := he
  by_cases q : i = t + 1
  · rw [if_pos q] at hz
    refine Or.inl ⟨hz, fun i' j' h1 h2 => ?_⟩
    by_cases r : (j' : Int) = t + 1
    · have := d i' (by omega) (by omega)
      rw [show ((i' : Int)).toNat = i' by omega, show (t + 1).toNat = j' by omega] at this
      exact this
    · exact h i' j' h1 (by omega)
  · rw [if_neg q] at hz
    rw [hz]
    exact Or.inr ⟨b, by omega, c, fun i' j' h1 h2 => h i' j' h1 (by omega)⟩
theorem CYF_b {E : Nat → Nat → Prop} {f t : Int} (h : CYF E f t) : -1 ≤ f ∧ (f ≤ t ∨ f = -1) := by rcases h with q | q <;> omega
theorem CYF_y {E : Nat → Nat → Prop} {f t : Int} (h : CYF E f t) (hf : f ≠ -1) (ht : t ≤ 1000) : CYS E f (t - f) := by
  rcases h with q | ⟨a, b, c, d⟩
  · exact absurd q.1 hf
  · refine ⟨a, by omega, by omega, ?_, fun i j h1 h2 => d i j h1 (by omega)⟩
    rw [show f + (t - f) = t by omega]; exact c
theorem CYF_n {E : Nat → Nat → Prop} {f t : Int} (h : CYF E f t) (hf : f = -1) (ht : 1000 ≤ t) : CYN E := fun i j h1 h2 => cy_in h hf i j h1 (by omega)
set_option maxHeartbeats 4000000 in
theorem ok_X12_goesBack {V : VV} (hmo : MO V) (hnm : 1 ≤ V 55 5 ∧ V 55 5 ≤ 16) (hrn : ∀ k, 0 ≤ k → k < V 55 5 → 0 ≤ V 59 k ∧ V 59 k < V 55 1) (hiw : 1 ≤ V 55 39 ∧ V 55 39 ≤ 5) (his : 0 ≤ V 55 40 ∧ V 55 40 ≤ 6) : Ok NA yX12_goesBack cX12_goesBack 4 (some .boolean) 0 0 [vA 55] V (pI (fun x9 V' => ((x9 = 1 ∧ (∀ k, 0 ≤ k → k < V 55 5 → rowM V (V 59) (k) ≠ -1) ∧ ∀ k, 0 ≤ k → k < V 55 5 → V' 59 k = rowM V (V 59) (k)) ∨ (x9 = 0 ∧ (∃ k, 0 ≤ k ∧ k < V 55 5 ∧ rowM V (V 59) (k) = -1) ∧ ∀ k, V' 59 k = V 59 k)) ∧ fr [59, 84] V V')) := by
  refine Ok.intro (by decide +kernel) (Nat.le_of_ble_eq_true rfl) (fun X G hX hG hR hoa hoV => ?_)
  show J X G 0 [vA 55, vU, vU, vU] [] V
  have hb9 := hmo.b
  have g7 := pw5 hb9.1 (k := (V 55 39).toNat) (by omega)
  refine j_iconst hX dX12_goesBack_0 ⟨by decide, by decide⟩ ?_
  refine j_is1 hX dX12_goesBack_1 rfl ?_
  have lp_2 : ∀ (f9 : Nat) (j : Int) (Y : VV), (0 ≤ j ∧ j ≤ V 55 5) → (fr [84] V Y) → (∀ i, 0 ≤ i → i < j → rowM V (V 59) ((i + V 55 40) % V 55 5) ≠ -1 ∧ Y 84 ((i + V 55 40) % V 55 5) = rowM V (V 59) ((i + V 55 40) % V 55 5)) → ((V 55 5 - j).toNat) < f9 → J X G 2 [vA 55, vI j, vU, vU] [] Y := by
    intro f9
    induction f9 with
    | zero => intro j Y _ _ _ hm; exact absurd hm (Nat.not_lt_zero _)
    | succ f9 ih_2 =>
      intro j Y hj hy hF hm
      refine j_il1 hX dX12_goesBack_2 ?_
      have f1_Y : Y 55 1 = V 55 1 := hy 55 1 (by decide)
      have f2_Y : Y 55 2 = V 55 2 := hy 55 2 (by decide)
      have f5_Y : Y 55 5 = V 55 5 := hy 55 5 (by decide)
      have f39_Y : Y 55 39 = V 55 39 := hy 55 39 (by decide)
      have f40_Y : Y 55 40 = V 55 40 := hy 55 40 (by decide)
      refine j_al0 hX dX12_goesBack_3 rfl ?_
      refine j_getI hX hG fl_X12_142 (Or.inl rfl) (by decide) dX12_goesBack_4 ?_
      refine j_fx (x := V 55 5) (by first | assumption | rfl) ?_
      refine j_icmp_ge (tgt := 96) hX dX12_goesBack_7 (by decide) (fun h_7 => ?_) (fun h_7 => ?_)
      · skip
        refine j_iconst hX dX12_goesBack_96 ⟨by decide, by decide⟩ ?_
        refine j_is1 hX dX12_goesBack_97 rfl ?_
        have lp_98 : ∀ (f9 : Nat) (m : Int) (Z : VV), (0 ≤ m ∧ m ≤ V 55 5) → (fr [59] Y Z) → (∀ i, 0 ≤ i → i < m → Z 59 i = Y 84 i) → ((V 55 5 - m).toNat) < f9 → J X G 98 [vA 55, vI m, vU, vU] [] Z := by
          intro f9
          induction f9 with
          | zero => intro m Z _ _ _ hm; exact absurd hm (Nat.not_lt_zero _)
          | succ f9 ih_98 =>
            intro m Z hm1 hz hC hm
            refine j_il1 hX dX12_goesBack_98 ?_
            have f5_Z : Z 55 5 = V 55 5 := (hz 55 5 (by decide)).trans (hy 55 5 (by decide))
            refine j_al0 hX dX12_goesBack_99 rfl ?_
            refine j_getI hX hG fl_X12_142 (Or.inl rfl) (by decide) dX12_goesBack_100 ?_
            refine j_fx (x := V 55 5) (by first | assumption | rfl) ?_
            refine j_icmp_ge (tgt := 124) hX dX12_goesBack_103 (by decide) (fun h_103 => ?_) (fun h_103 => ?_)
            · skip
              refine j_iconst hX dX12_goesBack_124 ⟨by decide, by decide⟩ ?_
              exact j_retZ hR dX12_goesBack_125 (by omega) (by
      have all : ∀ k, 0 ≤ k → k < V 55 5 → rowM V (V 59) k ≠ -1 ∧ Y 84 k = rowM V (V 59) k := fun k k0 k1 => by
        have m9 := md_b (k - V 55 40) (n := V 55 5) (by omega)
        have h := hF _ m9.1 (by omega)
        rw [Int.emod_add_emod, show k - V 55 40 + V 55 40 = k by omega, Int.emod_eq_of_lt k0 k1] at h
        exact h
      exact ⟨Or.inl ⟨rfl, fun k a b => (all k a b).1, fun k a b => (hC k a (by omega)).trans (all k a b).2⟩, fr_t (fr_w hy (by decide)) (fr_w hz (by decide))⟩)
            · skip
              refine j_al0 hX dX12_goesBack_106 rfl ?_
              refine j_getR (q := 59) hX hG fl_X12_19 rfl rfl (by decide) dX12_goesBack_107 ?_
              refine j_il1 hX dX12_goesBack_110 ?_
              refine j_al0 hX dX12_goesBack_111 rfl ?_
              refine j_getR (q := 84) hX hG fl_X12_101 rfl rfl (by decide) dX12_goesBack_112 ?_
              refine j_il1 hX dX12_goesBack_115 ?_
              refine j_iald (n := 16) hX hG (by decide) (by omega) dX12_goesBack_116 ?_
              refine j_iast (n := 16) hX hG (by decide) (by omega) dX12_goesBack_117 ?_
              refine j_inc1 hX dX12_goesBack_118 rfl (by omega) ?_
              refine j_goto (tgt := 98) hX dX12_goesBack_121 (by decide) ?_
              exact ih_98 _ _ (by omega) (fr_u hz (by decide)) (lt_stepI (fun i a b => by rw [up_n _ (by omega)]; exact hC i a b) (by rw [up_s]; exact hz 84 _ (by decide))) (by omega)
        exact lp_98 _ 0 _ ⟨by decide, by omega⟩ fr_0 (fun i a b => by omega) (Nat.lt_succ_self _)
      · skip
        have hjl : j < V 55 5 := by omega
        have hjs := md_b (j + V 55 40) (n := V 55 5) (by omega)
        refine j_iconst hX dX12_goesBack_10 ⟨by decide, by decide⟩ ?_
        refine j_is2 hX dX12_goesBack_11 rfl ?_
        refine j_iconst hX dX12_goesBack_12 ⟨by decide, by decide⟩ ?_
        refine j_is3 hX dX12_goesBack_13 rfl ?_
        have lp_14 : ∀ (f9 : Nat) (i : Int), (0 ≤ i ∧ i ≤ V 55 39) → ((V 55 39 - i).toNat) < f9 → J X G 14 [vA 55, vI j, vI (codeF (V 55 1) (fun i => V 59 ((j + V 55 2 - 2 + i) % V 55 5)) i.toNat), vI i] [] Y := by
          intro f9
          induction f9 with
          | zero => intro i _ hm; exact absurd hm (Nat.not_lt_zero _)
          | succ f9 ih_14 =>
            intro i hi hm
            refine j_il3 hX dX12_goesBack_14 ?_
            refine j_al0 hX dX12_goesBack_15 rfl ?_
            refine j_getI hX hG fl_X12_352 (Or.inl rfl) (by decide) dX12_goesBack_16 ?_
            refine j_fx (x := V 55 39) (by first | assumption | rfl) ?_
            refine j_icmp_ge (tgt := 56) hX dX12_goesBack_19 (by decide) (fun h_19 => ?_) (fun h_19 => ?_)
            · skip
              have ei : i = V 55 39 := by omega
              rw [ei]
              have c9 := codeF_b (b := V 55 1) (R := fun i => V 59 ((j + V 55 2 - 2 + i) % V 55 5)) (by omega) (V 55 39).toNat (fun z a b => hrn _ (md_b _ (by omega)).1 (md_b _ (by omega)).2)
              have hrw : rowM V (V 59) ((j + V 55 40) % V 55 5) = Y 74 (codeF (V 55 1) (fun i => V 59 ((j + V 55 2 - 2 + i) % V 55 5)) (V 55 39).toNat) := by rw [hy 74 _ (by decide)]; exact rowM_j
              refine j_al0 hX dX12_goesBack_56 rfl ?_
              refine j_getR (q := 74) hX hG fl_X12_70 rfl rfl (by decide) dX12_goesBack_57 ?_
              refine j_il2 hX dX12_goesBack_60 ?_
              refine j_iald (n := 7776) hX hG (by decide) (by omega) dX12_goesBack_61 ?_
              refine j_iconst hX dX12_goesBack_62 ⟨by decide, by decide⟩ ?_
              refine j_icmp_ne (tgt := 68) hX dX12_goesBack_63 (by decide) (fun h_63 => ?_) (fun h_63 => ?_)
              · skip
                refine j_al0 hX dX12_goesBack_68 rfl ?_
                refine j_getR (q := 84) hX hG fl_X12_101 rfl rfl (by decide) dX12_goesBack_69 ?_
                refine j_il1 hX dX12_goesBack_72 ?_
                refine j_al0 hX dX12_goesBack_73 rfl ?_
                refine j_getI hX hG fl_X12_361 (Or.inl rfl) (by decide) dX12_goesBack_74 ?_
                refine j_fx (x := V 55 40) (by first | assumption | rfl) ?_
                refine j_iadd hX dX12_goesBack_77 (by omega) ?_
                refine j_al0 hX dX12_goesBack_78 rfl ?_
                refine j_getI hX hG fl_X12_142 (Or.inl rfl) (by decide) dX12_goesBack_79 ?_
                refine j_fx (x := V 55 5) (by first | assumption | rfl) ?_
                refine j_irem hX dX12_goesBack_82 (by omega) (by omega) ?_
                refine j_al0 hX dX12_goesBack_83 rfl ?_
                refine j_getR (q := 74) hX hG fl_X12_70 rfl rfl (by decide) dX12_goesBack_84 ?_
                refine j_il2 hX dX12_goesBack_87 ?_
                refine j_iald (n := 7776) hX hG (by decide) (by omega) dX12_goesBack_88 ?_
                refine j_iast (n := 16) hX hG (by decide) (by omega) dX12_goesBack_89 ?_
                refine j_inc1 hX dX12_goesBack_90 rfl (by omega) ?_
                refine j_goto (tgt := 2) hX dX12_goesBack_93 (by decide) ?_
                refine j_fg2 ?_
                refine j_fg3 ?_
                exact ih_2 _ _ (by omega) (fr_u hy (by decide)) (lt_stepI (fun i a b => ⟨(hF i a b).1, up_same (hF i a b).2 hrw⟩) ⟨fun q => h_63 (hrw.symm.trans q), by rw [up_s]; exact hrw.symm⟩) (by omega)
              · skip
                refine j_iconst hX dX12_goesBack_66 ⟨by decide, by decide⟩ ?_
                exact j_retZ hR dX12_goesBack_67 (by omega) ⟨Or.inr ⟨rfl, ⟨_, hjs.1, hjs.2, hrw.trans h_63⟩, fun k => hy 59 k (by decide)⟩, fr_w hy (by decide)⟩
            · skip
              have hm9 := md_b (j + V 55 2 - 2 + i) (n := V 55 5) (by omega)
              have r9 := hrn _ hm9.1 hm9.2
              have c9 := codeF_b (b := V 55 1) (R := fun i => V 59 ((j + V 55 2 - 2 + i) % V 55 5)) (by omega) i.toNat (fun z a b => hrn _ (md_b _ (by omega)).1 (md_b _ (by omega)).2)
              have c8 := iw_m hb9.1 c9 (show i ≤ 4 by omega)
              refine j_al0 hX dX12_goesBack_22 rfl ?_
              refine j_getI hX hG fl_X12_136 (Or.inl rfl) (by decide) dX12_goesBack_23 ?_
              refine j_fx (x := V 55 1) (by first | assumption | rfl) ?_
              refine j_il2 hX dX12_goesBack_26 ?_
              refine j_imul hX dX12_goesBack_27 (by omega) ?_
              refine j_al0 hX dX12_goesBack_28 rfl ?_
              refine j_getR (q := 59) hX hG fl_X12_19 rfl rfl (by decide) dX12_goesBack_29 ?_
              refine j_il1 hX dX12_goesBack_32 ?_
              refine j_al0 hX dX12_goesBack_33 rfl ?_
              refine j_getI hX hG fl_X12_139 (Or.inl rfl) (by decide) dX12_goesBack_34 ?_
              refine j_fx (x := V 55 2) (by first | assumption | rfl) ?_
              refine j_iadd hX dX12_goesBack_37 (by omega) ?_
              refine j_iconst hX dX12_goesBack_38 ⟨by decide, by decide⟩ ?_
              refine j_isub hX dX12_goesBack_39 (by omega) ?_
              refine j_il3 hX dX12_goesBack_40 ?_
              refine j_iadd hX dX12_goesBack_41 (by omega) ?_
              refine j_al0 hX dX12_goesBack_42 rfl ?_
              refine j_getI hX hG fl_X12_142 (Or.inl rfl) (by decide) dX12_goesBack_43 ?_
              refine j_fx (x := V 55 5) (by first | assumption | rfl) ?_
              refine j_irem hX dX12_goesBack_46 (by omega) (by omega) ?_
              refine j_iald (n := 16) hX hG (by decide) (by omega) dX12_goesBack_47 ?_
              refine j_eqS (st' := [vI (V 59 ((j + V 55 2 - 2 + i) % V 55 5)), vI (V 55 1 * (codeF (V 55 1) (fun i => V 59 ((j + V 55 2 - 2 + i) % V 55 5)) i.toNat))]) (by rw [hy 59 _ (by decide)]) ?_
              refine j_iadd hX dX12_goesBack_48 (by omega) ?_
              refine j_is2 hX dX12_goesBack_49 rfl ?_
              refine j_inc3 hX dX12_goesBack_50 rfl (by omega) ?_
              refine j_goto (tgt := 14) hX dX12_goesBack_53 (by decide) ?_
              refine j_eqL (ls' := [vA 55, vI j, vI (codeF (V 55 1) (fun i => V 59 ((j + V 55 2 - 2 + i) % V 55 5)) (i + 1).toNat), vI (i + 1)]) (by rw [codeF_S hi.1, Int.mul_comm]) ?_
              exact ih_14 _ (by omega) (by omega)
        refine j_eqL (ls' := [vA 55, vI j, vI (codeF (V 55 1) (fun i => V 59 ((j + V 55 2 - 2 + i) % V 55 5)) (0 : Int).toNat), vI 0]) rfl ?_
        exact lp_14 _ _ (by omega) (Nat.lt_succ_self _)
  exact lp_2 _ _ _ (by omega) fr_0 (fun i a b => by omega) (Nat.lt_succ_self _)
set_option maxHeartbeats 4000000 in
theorem ok_X12_cycle {V : VV} {a : Int} (hmo : MO V) (htm : TRM V) (hnm : 1 ≤ V 55 5 ∧ V 55 5 ≤ 16) (hrn : ∀ k, 0 ≤ k → k < V 55 5 → 0 ≤ V 59 k ∧ V 59 k < V 55 1) : Ok NA yX12_cycle cX12_cycle 5 (some .int) 1 23 [vA 55, vI a] V (pI (fun x9 V' => ((0 ≤ a ∧ a ≤ 1) ∧ (∃ s p, CYS (EQO (V 58) (V 55 1) (V 55 2) (V 55 5) (V 59)) s p ∧ x9 = if a = 0 then s else p) ∧ (∀ k, 0 ≤ k → k < V 55 5 → V' 59 k = V 59 k) ∧ fr [59, 84, 85, 86] (up V 55 0 0) V') ∨ (¬ (0 ≤ a ∧ a ≤ 1) ∧ x9 = 0 ∧ V' = up (up V 55 0 0) 55 0 1) ∨ ((0 ≤ a ∧ a ≤ 1) ∧ CYN (EQO (V 58) (V 55 1) (V 55 2) (V 55 5) (V 59)) ∧ x9 = 0 ∧ (∀ k, 0 ≤ k → k < V 55 5 → V' 59 k = V 59 k) ∧ fr [59, 84, 85, 86] (up (up V 55 0 0) 55 0 2) V'))) := by
  refine Ok.intro (by decide +kernel) (Nat.le_of_ble_eq_true rfl) (fun X G hX hG hR hoa hoV => ?_)
  show J X G 0 [vA 55, vI a, vU, vU, vU] [] V
  have hb9 := hmo.b
  refine j_al0 hX dX12_cycle_0 rfl ?_
  refine j_iconst hX dX12_cycle_1 ⟨by decide, by decide⟩ ?_
  refine j_putI hX hG fp_X12_126 rfl (by decide) dX12_cycle_2 ?_
  obtain ⟨U, hU⟩ : ∃ U, U = up V 55 0 0 := ⟨_, rfl⟩
  rw [← hU]
  have u0 : U 55 0 = 0 := by rw [hU]; exact up_s ..
  have uF : ∀ b, b ≠ 0 → U 55 b = V 55 b := fun b hb => by rw [hU]; exact up_n _ (fun q => hb q.2)
  have uC : ∀ a b, a ≠ 55 → U a b = V a b := fun a b ha => by rw [hU]; exact up_n _ (fun q => ha q.1)
  have moU : MO U := hmo.t uF
  have e5 := uF 5 (by decide)
  have f5_U := e5
  refine j_al0 hX dX12_cycle_5 rfl ?_
  refine j_il1 hX dX12_cycle_6 ?_
  refine j_iconst hX dX12_cycle_7 ⟨by decide, by decide⟩ ?_
  refine j_iconst hX dX12_cycle_8 ⟨by decide, by decide⟩ ?_
  refine j_pSI3 hX hG lk_X12_172 (ok_X12_isIn ) (Nat.le_of_ble_eq_true rfl) (Nat.le_of_ble_eq_true rfl) (Nat.le_of_ble_eq_true rfl) rfl dX12_cycle_9 ?_
  refine j_iconst hX dX12_cycle_12 ⟨by decide, by decide⟩ ?_
  refine j_cVI2 (ci := 12) hX hG lk_X12_168 (ok_X12_may u0 (by decide)) (by decide) rfl (Nat.le_of_ble_eq_true rfl) (Nat.le_of_ble_eq_true rfl) (Nat.le_of_ble_eq_true rfl) rfl dX12_cycle_13 (fun x_13 V_13 h_13 => ?_)
  skip
  refine j_if_ne (tgt := 21) hX dX12_cycle_16 (by decide) (fun h_16 => ?_) (fun h_16 => ?_)
  · skip
    obtain ⟨c_13, -, w_13⟩ := h_13.elim id (fun q => absurd q.2.1 (by omega))
    have w2_13 := w_13.symm
    subst w2_13
    have c9 : 0 ≤ a ∧ a ≤ 1 := Classical.byContradiction fun q => c_13 (by rw [if_neg q])
    refine j_iconst hX dX12_cycle_21 ⟨by decide, by decide⟩ ?_
    refine j_is2 hX dX12_cycle_22 rfl ?_
    have lp_23 : ∀ (f9 : Nat) (j : Int) (Y : VV), (0 ≤ j ∧ j ≤ V 55 5) → (fr [86] U Y) → (∀ i, 0 ≤ i → i < j → Y 86 i = V 59 i) → ((V 55 5 - j).toNat) < f9 → J X G 23 [vA 55, vI a, vI j, vU, vU] [] Y := by
      intro f9
      induction f9 with
      | zero => intro j Y _ _ _ hm; exact absurd hm (Nat.not_lt_zero _)
      | succ f9 ih_23 =>
        intro j Y hj hy hD hm
        refine j_il2 hX dX12_cycle_23 ?_
        have f5_Y : Y 55 5 = V 55 5 := (hy 55 5 (by decide)).trans e5
        refine j_al0 hX dX12_cycle_24 rfl ?_
        refine j_getI hX hG fl_X12_142 (Or.inl rfl) (by decide) dX12_cycle_25 ?_
        refine j_fx (x := V 55 5) (by first | assumption | rfl) ?_
        refine j_icmp_ge (tgt := 49) hX dX12_cycle_28 (by decide) (fun h_28 => ?_) (fun h_28 => ?_)
        · skip
          have moY : MO Y := moU.t (fun b _ => hy 55 b (by decide))
          have y1 : Y 55 1 = V 55 1 := (hy 55 1 (by decide)).trans (uF 1 (by decide))
          have y59 : ∀ k, Y 59 k = V 59 k := fun k => (hy 59 k (by decide)).trans (uC 59 k (by decide))
          have f5_Y2 : Y 55 5 = V 55 5 := (hy 55 5 (by decide)).trans e5
          refine j_iconst hX dX12_cycle_49 ⟨by decide, by decide⟩ ?_
          refine j_is2 hX dX12_cycle_50 rfl ?_
          refine j_iconst hX dX12_cycle_51 ⟨by decide, by decide⟩ ?_
          refine j_is3 hX dX12_cycle_52 rfl ?_
          refine j_al0 hX dX12_cycle_53 rfl ?_
          refine j_getR (q := 85) hX hG fl_X12_104 rfl rfl (by decide) dX12_cycle_54 ?_
          refine j_iconst hX dX12_cycle_57 ⟨by decide, by decide⟩ ?_
          refine j_al0 hX dX12_cycle_58 rfl ?_
          refine j_pVL0 (ci := 12) hX hG lk_X12_426 (ok_X12_codeNow moY (by rw [f5_Y2]; exact hnm) (fun k a b => by rw [f5_Y2] at b; rw [y59, y1]; exact hrn k a b)) (by decide) rfl (Nat.le_of_ble_eq_true rfl) (Nat.le_of_ble_eq_true rfl) (Nat.le_of_ble_eq_true rfl) rfl dX12_cycle_59 ?_
          have hc0 : codeF (Y 55 1) (Y 59) (Y 55 5).toNat = codeF (V 55 1) (V 59) (V 55 5).toNat := by rw [y1, f5_Y2, show Y 59 = V 59 from funext y59]
          refine j_last (n := 1001) hX hG (by decide) (by decide) dX12_cycle_62 ?_
          have lp_63 : ∀ (f9 : Nat) (f t : Int) (W : VV), (0 ≤ t ∧ t ≤ 1000) → (fr [59, 84, 85, 86] U W) → (∀ k, 0 ≤ k → k < V 55 5 → W 59 k = orbF (V 58) (V 55 1) (V 55 2) (V 55 5) (V 59) t.toNat k) → (∀ i, 0 ≤ i → i ≤ t → W 85 i = codeF (V 55 1) (orbF (V 58) (V 55 1) (V 55 2) (V 55 5) (V 59) i.toNat) (V 55 5).toNat) → (∀ i, 0 ≤ i → i < V 55 5 → W 86 i = V 59 i) → (CYF (EQO (V 58) (V 55 1) (V 55 2) (V 55 5) (V 59)) f t) → ((1000 - t).toNat) < f9 → J X G 63 [vA 55, vI a, vI f, vI t, vU] [] W := by
            intro f9
            induction f9 with
            | zero => intro f t W _ _ _ _ _ _ hm; exact absurd hm (Nat.not_lt_zero _)
            | succ f9 ih_63 =>
              intro f t W ht hw hRw hC hA hF hm
              refine j_il2 hX dX12_cycle_63 ?_
              refine j_iconst hX dX12_cycle_64 ⟨by decide, by decide⟩ ?_
              refine j_icmp_ne (tgt := 130) hX dX12_cycle_65 (by decide) (fun h_65 => ?_) (fun h_65 => ?_)
              · skip
                have w55 : ∀ b, b ≠ 0 → W 55 b = V 55 b := fun b hb => (hw 55 b (by decide)).trans (uF b hb)
                refine j_iconst hX dX12_cycle_130 ⟨by decide, by decide⟩ ?_
                refine j_is4 hX dX12_cycle_131 rfl ?_
                have lp_133 : ∀ (f9 : Nat) (m : Int) (Z : VV), (0 ≤ m ∧ m ≤ V 55 5) → (fr [59] W Z) → (∀ i, 0 ≤ i → i < m → Z 59 i = V 59 i) → ((V 55 5 - m).toNat) < f9 → J X G 133 [vA 55, vI a, vI f, vI t, vI m] [] Z := by
                  intro f9
                  induction f9 with
                  | zero => intro m Z _ _ _ hm; exact absurd hm (Nat.not_lt_zero _)
                  | succ f9 ih_133 =>
                    intro m Z hm1 hz2 hB hm
                    refine j_il4 hX dX12_cycle_133 ?_
                    have f5_Z : Z 55 5 = V 55 5 := (hz2 55 5 (by decide)).trans (w55 5 (by decide))
                    refine j_al0 hX dX12_cycle_135 rfl ?_
                    refine j_getI hX hG fl_X12_142 (Or.inl rfl) (by decide) dX12_cycle_136 ?_
                    refine j_fx (x := V 55 5) (by first | assumption | rfl) ?_
                    refine j_icmp_ge (tgt := 162) hX dX12_cycle_139 (by decide) (fun h_139 => ?_) (fun h_139 => ?_)
                    · skip
                      have z0 : Z 55 0 = 0 := (hz2 55 0 (by decide)).trans ((hw 55 0 (by decide)).trans u0)
                      have fZ : fr [59, 84, 85, 86] U Z := fr_t hw (fr_w hz2 (by decide))
                      have jn_173 : ∀ (z : Int), (z = if f ≠ -1 then 1 else 0) → J X G 173 [vA 55, vI a, vI f, vI t, vU] [vI z, vA 55] Z := by
                        intro z hz5
                        refine j_iconst hX dX12_cycle_173 ⟨by decide, by decide⟩ ?_
                        refine j_cVI2 (ci := 12) hX hG lk_X12_168 (ok_X12_may z0 (by decide)) (by decide) rfl (Nat.le_of_ble_eq_true rfl) (Nat.le_of_ble_eq_true rfl) (Nat.le_of_ble_eq_true rfl) rfl dX12_cycle_174 (fun x_174 V_174 h_174 => ?_)
                        skip
                        have jn_195 : ∀ (x9 : Int) (W9 : VV), ((f ≠ -1 ∧ x9 = (if a = 0 then f else t - f) ∧ W9 = Z) ∨ (f = -1 ∧ x9 = 0 ∧ W9 = up Z 55 0 2)) → J X G 195 [vA 55, vI a, vI f, vI t, vU] [vI x9] W9 := by
                          intro x9 W9 hz8
                          exact j_retI hR dX12_cycle_195 (by
      rw [hU] at fZ
      rcases hz8 with ⟨b1, b2, b3⟩ | ⟨b1, b2, b3⟩
      · rw [b3, b2]
        exact Or.inl ⟨c9, ⟨f, t - f, CYF_y hF b1 ht.2, rfl⟩, fun k a b => hB k a (by omega), fZ⟩
      · rw [b3, b2]
        exact Or.inr (Or.inr ⟨c9, CYF_n hF b1 (by omega), rfl, fun k a b => by rw [up_n _ (by omega)]; exact hB k a (by omega), fr_up fZ⟩))
                        refine j_if_eq (tgt := 194) hX dX12_cycle_177 (by decide) (fun h_177 => ?_) (fun h_177 => ?_)
                        · skip
                          obtain ⟨c_174, -, w_174⟩ := h_174.elim (fun q => absurd q.2.1 (by omega)) id
                          have cf : f = -1 := Classical.byContradiction fun q => by rw [hz5, if_pos q] at c_174; exact absurd c_174 (by decide)
                          refine j_iconst hX dX12_cycle_194 ⟨by decide, by decide⟩ ?_
                          exact jn_195 _ _ (by first | exact Or.inl ⟨cf, (if_pos h_181).symm, rfl⟩ | exact Or.inl ⟨cf, (if_neg h_181).symm, rfl⟩ | exact Or.inr ⟨cf, rfl, w_174⟩)
                        · skip
                          obtain ⟨c_174, -, w_174⟩ := h_174.elim id (fun q => absurd q.2.1 (by omega))
                          have w2_174 := w_174.symm
                          subst w2_174
                          have cf : f ≠ -1 := Classical.byContradiction fun q => c_174 (by rw [hz5, if_neg q])
                          refine j_il1 hX dX12_cycle_180 ?_
                          refine j_if_ne (tgt := 188) hX dX12_cycle_181 (by decide) (fun h_181 => ?_) (fun h_181 => ?_)
                          · skip
                            refine j_il3 hX dX12_cycle_188 ?_
                            refine j_il2 hX dX12_cycle_189 ?_
                            refine j_isub hX dX12_cycle_190 (by have h9 := CYF_b hF; omega) ?_
                            refine j_goto (tgt := 195) hX dX12_cycle_191 (by decide) ?_
                            exact jn_195 _ _ (by first | exact Or.inl ⟨cf, (if_pos h_181).symm, rfl⟩ | exact Or.inl ⟨cf, (if_neg h_181).symm, rfl⟩ | exact Or.inr ⟨cf, rfl, w_174⟩)
                          · skip
                            refine j_il2 hX dX12_cycle_184 ?_
                            refine j_goto (tgt := 195) hX dX12_cycle_185 (by decide) ?_
                            exact jn_195 _ _ (by first | exact Or.inl ⟨cf, (if_pos h_181).symm, rfl⟩ | exact Or.inl ⟨cf, (if_neg h_181).symm, rfl⟩ | exact Or.inr ⟨cf, rfl, w_174⟩)
                      refine j_al0 hX dX12_cycle_162 rfl ?_
                      refine j_il2 hX dX12_cycle_163 ?_
                      refine j_iconst hX dX12_cycle_164 ⟨by decide, by decide⟩ ?_
                      refine j_icmp_eq (tgt := 172) hX dX12_cycle_165 (by decide) (fun h_165 => ?_) (fun h_165 => ?_)
                      · skip
                        refine j_iconst hX dX12_cycle_172 ⟨by decide, by decide⟩ ?_
                        refine j_fg4 ?_
                        exact jn_173 _ (by first | exact (if_pos (by omega)).symm | exact (if_neg (by omega)).symm)
                      · skip
                        refine j_iconst hX dX12_cycle_168 ⟨by decide, by decide⟩ ?_
                        refine j_goto (tgt := 173) hX dX12_cycle_169 (by decide) ?_
                        refine j_fg4 ?_
                        exact jn_173 _ (by first | exact (if_pos (by omega)).symm | exact (if_neg (by omega)).symm)
                    · skip
                      refine j_al0 hX dX12_cycle_142 rfl ?_
                      refine j_getR (q := 59) hX hG fl_X12_19 rfl rfl (by decide) dX12_cycle_143 ?_
                      refine j_il4 hX dX12_cycle_146 ?_
                      refine j_al0 hX dX12_cycle_148 rfl ?_
                      refine j_getR (q := 86) hX hG fl_X12_107 rfl rfl (by decide) dX12_cycle_149 ?_
                      refine j_il4 hX dX12_cycle_152 ?_
                      refine j_iald (n := 16) hX hG (by decide) (by omega) dX12_cycle_154 ?_
                      refine j_iast (n := 16) hX hG (by decide) (by omega) dX12_cycle_155 ?_
                      refine j_inc4 hX dX12_cycle_156 rfl (by omega) ?_
                      refine j_goto (tgt := 133) hX dX12_cycle_159 (by decide) ?_
                      exact ih_133 _ _ (by omega) (fr_u hz2 (by decide)) (lt_stepI (fun i a b => by rw [up_n _ (by omega)]; exact hB i a b) (by rw [up_s, hz2 86 _ (by decide)]; exact hA _ (by omega) (by omega))) (by omega)
                exact lp_133 _ 0 _ ⟨by decide, by omega⟩ fr_0 (fun i a b => by omega) (Nat.lt_succ_self _)
              · skip
                have w55 : ∀ b, b ≠ 0 → W 55 b = V 55 b := fun b hb => (hw 55 b (by decide)).trans (uF b hb)
                have w58 : W 58 = V 58 := funext fun b => (hw 58 b (by decide)).trans (uC 58 b (by decide))
                have moW : MO W := hmo.t w55
                have tmW : ∀ t : Nat, ∀ k, 0 ≤ k → k < V 55 5 → 0 ≤ orbF (V 58) (V 55 1) (V 55 2) (V 55 5) (V 59) t k ∧ orbF (V 58) (V 55 1) (V 55 2) (V 55 5) (V 59) t k < V 55 1 := fun t => orbF_b (V := mvw V) (r := 15) hmo htm (by omega) hrn t
                refine j_il3 hX dX12_cycle_68 ?_
                refine j_sipush hX dX12_cycle_69 (by decide) ⟨by decide, by decide⟩ ?_
                refine j_icmp_ge (tgt := 130) hX dX12_cycle_72 (by decide) (fun h_72 => ?_) (fun h_72 => ?_)
                · skip
                  have w55 : ∀ b, b ≠ 0 → W 55 b = V 55 b := fun b hb => (hw 55 b (by decide)).trans (uF b hb)
                  refine j_iconst hX dX12_cycle_130 ⟨by decide, by decide⟩ ?_
                  refine j_is4 hX dX12_cycle_131 rfl ?_
                  have lp_133 : ∀ (f9 : Nat) (m : Int) (Z : VV), (0 ≤ m ∧ m ≤ V 55 5) → (fr [59] W Z) → (∀ i, 0 ≤ i → i < m → Z 59 i = V 59 i) → ((V 55 5 - m).toNat) < f9 → J X G 133 [vA 55, vI a, vI f, vI t, vI m] [] Z := by
                    intro f9
                    induction f9 with
                    | zero => intro m Z _ _ _ hm; exact absurd hm (Nat.not_lt_zero _)
                    | succ f9 ih_133 =>
                      intro m Z hm1 hz2 hB hm
                      refine j_il4 hX dX12_cycle_133 ?_
                      have f5_Z : Z 55 5 = V 55 5 := (hz2 55 5 (by decide)).trans (w55 5 (by decide))
                      refine j_al0 hX dX12_cycle_135 rfl ?_
                      refine j_getI hX hG fl_X12_142 (Or.inl rfl) (by decide) dX12_cycle_136 ?_
                      refine j_fx (x := V 55 5) (by first | assumption | rfl) ?_
                      refine j_icmp_ge (tgt := 162) hX dX12_cycle_139 (by decide) (fun h_139 => ?_) (fun h_139 => ?_)
                      · skip
                        have z0 : Z 55 0 = 0 := (hz2 55 0 (by decide)).trans ((hw 55 0 (by decide)).trans u0)
                        have fZ : fr [59, 84, 85, 86] U Z := fr_t hw (fr_w hz2 (by decide))
                        have jn_173 : ∀ (z : Int), (z = if f ≠ -1 then 1 else 0) → J X G 173 [vA 55, vI a, vI f, vI t, vU] [vI z, vA 55] Z := by
                          intro z hz5
                          refine j_iconst hX dX12_cycle_173 ⟨by decide, by decide⟩ ?_
                          refine j_cVI2 (ci := 12) hX hG lk_X12_168 (ok_X12_may z0 (by decide)) (by decide) rfl (Nat.le_of_ble_eq_true rfl) (Nat.le_of_ble_eq_true rfl) (Nat.le_of_ble_eq_true rfl) rfl dX12_cycle_174 (fun x_174 V_174 h_174 => ?_)
                          skip
                          have jn_195 : ∀ (x9 : Int) (W9 : VV), ((f ≠ -1 ∧ x9 = (if a = 0 then f else t - f) ∧ W9 = Z) ∨ (f = -1 ∧ x9 = 0 ∧ W9 = up Z 55 0 2)) → J X G 195 [vA 55, vI a, vI f, vI t, vU] [vI x9] W9 := by
                            intro x9 W9 hz8
                            exact j_retI hR dX12_cycle_195 (by
      rw [hU] at fZ
      rcases hz8 with ⟨b1, b2, b3⟩ | ⟨b1, b2, b3⟩
      · rw [b3, b2]
        exact Or.inl ⟨c9, ⟨f, t - f, CYF_y hF b1 ht.2, rfl⟩, fun k a b => hB k a (by omega), fZ⟩
      · rw [b3, b2]
        exact Or.inr (Or.inr ⟨c9, CYF_n hF b1 (by omega), rfl, fun k a b => by rw [up_n _ (by omega)]; exact hB k a (by omega), fr_up fZ⟩))
                          refine j_if_eq (tgt := 194) hX dX12_cycle_177 (by decide) (fun h_177 => ?_) (fun h_177 => ?_)
                          · skip
                            obtain ⟨c_174, -, w_174⟩ := h_174.elim (fun q => absurd q.2.1 (by omega)) id
                            have cf : f = -1 := Classical.byContradiction fun q => by rw [hz5, if_pos q] at c_174; exact absurd c_174 (by decide)
                            refine j_iconst hX dX12_cycle_194 ⟨by decide, by decide⟩ ?_
                            exact jn_195 _ _ (by first | exact Or.inl ⟨cf, (if_pos h_181).symm, rfl⟩ | exact Or.inl ⟨cf, (if_neg h_181).symm, rfl⟩ | exact Or.inr ⟨cf, rfl, w_174⟩)
                          · skip
                            obtain ⟨c_174, -, w_174⟩ := h_174.elim id (fun q => absurd q.2.1 (by omega))
                            have w2_174 := w_174.symm
                            subst w2_174
                            have cf : f ≠ -1 := Classical.byContradiction fun q => c_174 (by rw [hz5, if_neg q])
                            refine j_il1 hX dX12_cycle_180 ?_
                            refine j_if_ne (tgt := 188) hX dX12_cycle_181 (by decide) (fun h_181 => ?_) (fun h_181 => ?_)
                            · skip
                              refine j_il3 hX dX12_cycle_188 ?_
                              refine j_il2 hX dX12_cycle_189 ?_
                              refine j_isub hX dX12_cycle_190 (by have h9 := CYF_b hF; omega) ?_
                              refine j_goto (tgt := 195) hX dX12_cycle_191 (by decide) ?_
                              exact jn_195 _ _ (by first | exact Or.inl ⟨cf, (if_pos h_181).symm, rfl⟩ | exact Or.inl ⟨cf, (if_neg h_181).symm, rfl⟩ | exact Or.inr ⟨cf, rfl, w_174⟩)
                            · skip
                              refine j_il2 hX dX12_cycle_184 ?_
                              refine j_goto (tgt := 195) hX dX12_cycle_185 (by decide) ?_
                              exact jn_195 _ _ (by first | exact Or.inl ⟨cf, (if_pos h_181).symm, rfl⟩ | exact Or.inl ⟨cf, (if_neg h_181).symm, rfl⟩ | exact Or.inr ⟨cf, rfl, w_174⟩)
                        refine j_al0 hX dX12_cycle_162 rfl ?_
                        refine j_il2 hX dX12_cycle_163 ?_
                        refine j_iconst hX dX12_cycle_164 ⟨by decide, by decide⟩ ?_
                        refine j_icmp_eq (tgt := 172) hX dX12_cycle_165 (by decide) (fun h_165 => ?_) (fun h_165 => ?_)
                        · skip
                          refine j_iconst hX dX12_cycle_172 ⟨by decide, by decide⟩ ?_
                          refine j_fg4 ?_
                          exact jn_173 _ (by first | exact (if_pos (by omega)).symm | exact (if_neg (by omega)).symm)
                        · skip
                          refine j_iconst hX dX12_cycle_168 ⟨by decide, by decide⟩ ?_
                          refine j_goto (tgt := 173) hX dX12_cycle_169 (by decide) ?_
                          refine j_fg4 ?_
                          exact jn_173 _ (by first | exact (if_pos (by omega)).symm | exact (if_neg (by omega)).symm)
                      · skip
                        refine j_al0 hX dX12_cycle_142 rfl ?_
                        refine j_getR (q := 59) hX hG fl_X12_19 rfl rfl (by decide) dX12_cycle_143 ?_
                        refine j_il4 hX dX12_cycle_146 ?_
                        refine j_al0 hX dX12_cycle_148 rfl ?_
                        refine j_getR (q := 86) hX hG fl_X12_107 rfl rfl (by decide) dX12_cycle_149 ?_
                        refine j_il4 hX dX12_cycle_152 ?_
                        refine j_iald (n := 16) hX hG (by decide) (by omega) dX12_cycle_154 ?_
                        refine j_iast (n := 16) hX hG (by decide) (by omega) dX12_cycle_155 ?_
                        refine j_inc4 hX dX12_cycle_156 rfl (by omega) ?_
                        refine j_goto (tgt := 133) hX dX12_cycle_159 (by decide) ?_
                        exact ih_133 _ _ (by omega) (fr_u hz2 (by decide)) (lt_stepI (fun i a b => by rw [up_n _ (by omega)]; exact hB i a b) (by rw [up_s, hz2 86 _ (by decide)]; exact hA _ (by omega) (by omega))) (by omega)
                  exact lp_133 _ 0 _ ⟨by decide, by omega⟩ fr_0 (fun i a b => by omega) (Nat.lt_succ_self _)
                · skip
                  refine j_inc3 hX dX12_cycle_75 rfl (by omega) ?_
                  refine j_al0 hX dX12_cycle_78 rfl ?_
                  refine j_cVV0 (ci := 12) hX hG lk_X12_430 (ok_X12_steps moW (by rw [w55 5 (by decide)]; exact hnm) (fun k a b => by rw [w55 5 (by decide)] at b; rw [hRw k a b, w55 1 (by decide)]; exact tmW _ k a b)) (by decide) rfl (Nat.le_of_ble_eq_true rfl) (Nat.le_of_ble_eq_true rfl) (Nat.le_of_ble_eq_true rfl) rfl dX12_cycle_79 (fun V_79 h_79 => ?_)
                  obtain ⟨e_79, f_79⟩ := h_79
                  rw [w58, w55 1 (by decide), w55 2 (by decide), w55 5 (by decide)] at e_79
                  have v55 : ∀ b, b ≠ 0 → V_79 55 b = V 55 b := fun b hb => (f_79 55 b (by decide)).trans (w55 b hb)
                  have mo79 : MO V_79 := hmo.t v55
                  have hR2 : ∀ k, 0 ≤ k → k < V 55 5 → V_79 59 k = orbF (V 58) (V 55 1) (V 55 2) (V 55 5) (V 59) (t + 1).toNat k := fun k k0 k1 => by
                    rw [e_79 k k0 k1, show (t + 1).toNat = t.toNat + 1 by omega]
                    show _ = stepF (V 58) (V 55 1) (V 55 2) (V 55 5) (orbF (V 58) (V 55 1) (V 55 2) (V 55 5) (V 59) t.toNat) k
                    exact stepF_c (by omega) hRw k0 k1
                  refine j_al0 hX dX12_cycle_82 rfl ?_
                  refine j_getR (q := 85) hX hG fl_X12_104 rfl rfl (by decide) dX12_cycle_83 ?_
                  refine j_il3 hX dX12_cycle_86 ?_
                  refine j_al0 hX dX12_cycle_87 rfl ?_
                  refine j_pVL0 (ci := 12) hX hG lk_X12_426 (ok_X12_codeNow mo79 (by rw [v55 5 (by decide)]; exact hnm) (fun k a b => by rw [v55 5 (by decide)] at b; rw [hR2 k a b, v55 1 (by decide)]; exact tmW _ k a b)) (by decide) rfl (Nat.le_of_ble_eq_true rfl) (Nat.le_of_ble_eq_true rfl) (Nat.le_of_ble_eq_true rfl) rfl dX12_cycle_88 ?_
                  obtain ⟨x_88, ex_88⟩ : ∃ x, x = codeF (V_79 55 1) (V_79 59) (V_79 55 5).toNat := ⟨_, rfl⟩
                  rw [← ex_88]
                  have hx8 : x_88 = codeF (V 55 1) (orbF (V 58) (V 55 1) (V 55 2) (V 55 5) (V 59) (t + 1).toNat) (V 55 5).toNat := by rw [ex_88, v55 1 (by decide), v55 5 (by decide)]; exact codeF_c _ (fun k a b => hR2 k a (by omega))
                  have hC2 : ∀ i, 0 ≤ i → i ≤ t + 1 → (up V_79 85 (t + 1) x_88) 85 i = codeF (V 55 1) (orbF (V 58) (V 55 1) (V 55 2) (V 55 5) (V 59) i.toNat) (V 55 5).toNat := fun i i0 i1 => by
                    by_cases q : i = t + 1
                    · rw [q, up_s]; exact hx8
                    · rw [up_n _ (by omega), f_79 85 i (by decide)]; exact hC i i0 (by omega)
                  have hEc : ∀ i, 0 ≤ i → i ≤ t + 1 → EQO (V 58) (V 55 1) (V 55 2) (V 55 5) (V 59) i.toNat (t + 1).toNat → (up V_79 85 (t + 1) x_88) 85 i = (up V_79 85 (t + 1) x_88) 85 (t + 1) := fun i i0 i1 q => by
                    rw [hC2 i i0 i1, hC2 (t + 1) (by omega) (Int.le_refl _)]
                    exact codeF_c _ (fun k a b => q k a (by omega))
                  have hF9 := cy_in hF h_65
                  refine j_last (n := 1001) hX hG (by decide) (by omega) dX12_cycle_91 ?_
                  refine j_iconst hX dX12_cycle_92 ⟨by decide, by decide⟩ ?_
                  refine j_is2 hX dX12_cycle_93 rfl ?_
                  have lp_94 : ∀ (f9 : Nat) (i : Int), (0 ≤ i ∧ i ≤ t + 1) → (∀ j, 0 ≤ j → j < i → ¬ EQO (V 58) (V 55 1) (V 55 2) (V 55 5) (V 59) j.toNat (t + 1).toNat) → ((t + 1 - i).toNat) < f9 → J X G 94 [vA 55, vI a, vI i, vI (t + 1), vU] [] (up V_79 85 (t + 1) x_88) := by
                    intro f9
                    induction f9 with
                    | zero => intro i _ _ hm; exact absurd hm (Nat.not_lt_zero _)
                    | succ f9 ih_94 =>
                      intro i hi hN hm
                      refine j_al0 hX dX12_cycle_94 rfl ?_
                      refine j_getR (q := 85) hX hG fl_X12_104 rfl rfl (by decide) dX12_cycle_95 ?_
                      refine j_il2 hX dX12_cycle_98 ?_
                      refine j_lald (n := 1001) hX hG (by decide) (by omega) dX12_cycle_99 ?_
                      refine j_al0 hX dX12_cycle_100 rfl ?_
                      refine j_getR (q := 85) hX hG fl_X12_104 rfl rfl (by decide) dX12_cycle_101 ?_
                      refine j_il3 hX dX12_cycle_104 ?_
                      refine j_lald (n := 1001) hX hG (by decide) (by omega) dX12_cycle_105 ?_
                      refine j_lcmp_eq (tgt := 116) hX dX12_cycle_106 dX12_cycle_107 (by decide) (fun h_107 => ?_) (fun h_107 => ?_)
                      · skip
                        have hie : codeF (V 55 1) (orbF (V 58) (V 55 1) (V 55 2) (V 55 5) (V 59) i.toNat) (V 55 5).toNat = codeF (V 55 1) (orbF (V 58) (V 55 1) (V 55 2) (V 55 5) (V 59) (t + 1).toNat) (V 55 5).toNat := (hC2 i hi.1 hi.2).symm.trans (h_107.trans (hC2 (t + 1) (by omega) (Int.le_refl _)))
                        have hE2 : i ≤ t + 1 ∧ 0 ≤ i ∧ EQO (V 58) (V 55 1) (V 55 2) (V 55 5) (V 59) i.toNat (t + 1).toNat ∧ ∀ j, 0 ≤ j → j < i → ¬ EQO (V 58) (V 55 1) (V 55 2) (V 55 5) (V 59) j.toNat (t + 1).toNat := ⟨hi.2, hi.1, fun k k0 k1 => codeF_inj (by omega) _ (fun k a b => tmW _ k a (by omega)) (fun k a b => tmW _ k a (by omega)) hie k k0 (by omega), hN⟩
                        have jn_126 : ∀ (z : Int), (z = if i = t + 1 then -1 else i) → J X G 126 [vA 55, vI a, vI i, vI (t + 1), vU] [vI z] (up V_79 85 (t + 1) x_88) := by
                          intro z hz
                          refine j_is2 hX dX12_cycle_126 rfl ?_
                          refine j_goto (tgt := 63) hX dX12_cycle_127 (by decide) ?_
                          exact ih_63 _ _ _ (by omega) (fr_u (fr_t hw (fr_w f_79 (by decide))) (by decide)) (fun k a b => by rw [up_n _ (by omega)]; exact hR2 k a b) hC2 (fun i a b => by rw [up_n _ (by omega), f_79 86 i (by decide)]; exact hA i a b) (CYF_s hF9 ht.1 (by omega) hE2 hz) (by omega)
                        refine j_il2 hX dX12_cycle_116 ?_
                        refine j_il3 hX dX12_cycle_117 ?_
                        refine j_icmp_ne (tgt := 125) hX dX12_cycle_118 (by decide) (fun h_118 => ?_) (fun h_118 => ?_)
                        · skip
                          refine j_il2 hX dX12_cycle_125 ?_
                          exact jn_126 _ (by first | exact (if_pos (by omega)).symm | exact (if_neg (by omega)).symm)
                        · skip
                          refine j_iconst hX dX12_cycle_121 ⟨by decide, by decide⟩ ?_
                          refine j_goto (tgt := 126) hX dX12_cycle_122 (by decide) ?_
                          exact jn_126 _ (by first | exact (if_pos (by omega)).symm | exact (if_neg (by omega)).symm)
                      · skip
                        refine j_inc2 hX dX12_cycle_110 rfl (by omega) ?_
                        refine j_goto (tgt := 94) hX dX12_cycle_113 (by decide) ?_
                        exact ih_94 _ (by have h9 := cy_lt hi.2 (fun q => h_107 (by rw [q])); omega) (lt_stepI hN (fun q => h_107 (hEc i hi.1 hi.2 q))) (by have h9 := cy_lt hi.2 (fun q => h_107 (by rw [q])); omega)
                  exact lp_94 _ 0 (by omega) (fun j a b => by omega) (Nat.lt_succ_self _)
          exact lp_63 _ (-1) 0 _ ⟨by decide, by decide⟩ (fr_u (fr_w hy (by decide)) (by decide)) (fun k a b => by rw [up_n _ (by omega), hy 59 _ (by decide)]; exact uC 59 _ (by decide)) (fun i a b => by rw [show i = 0 by omega, up_s]; exact hc0) (fun i a b => by rw [up_n _ (by omega)]; exact hD i a (by omega)) CYF_0 (Nat.lt_succ_self _)
        · skip
          refine j_al0 hX dX12_cycle_31 rfl ?_
          refine j_getR (q := 86) hX hG fl_X12_107 rfl rfl (by decide) dX12_cycle_32 ?_
          refine j_il2 hX dX12_cycle_35 ?_
          refine j_al0 hX dX12_cycle_36 rfl ?_
          refine j_getR (q := 59) hX hG fl_X12_19 rfl rfl (by decide) dX12_cycle_37 ?_
          refine j_il2 hX dX12_cycle_40 ?_
          refine j_iald (n := 16) hX hG (by decide) (by omega) dX12_cycle_41 ?_
          refine j_iast (n := 16) hX hG (by decide) (by omega) dX12_cycle_42 ?_
          refine j_inc2 hX dX12_cycle_43 rfl (by omega) ?_
          refine j_goto (tgt := 23) hX dX12_cycle_46 (by decide) ?_
          exact ih_23 _ _ (by omega) (fr_u hy (by decide)) (lt_stepI (fun i a b => by rw [up_n _ (by omega)]; exact hD i a b) (by rw [up_s, hy 59 _ (by decide)]; exact uC 59 _ (by decide))) (by omega)
    exact lp_23 _ _ _ (by omega) fr_0 (fun i a b => by omega) (Nat.lt_succ_self _)
  · skip
    refine j_iconst hX dX12_cycle_19 ⟨by decide, by decide⟩ ?_
    exact j_retI hR dX12_cycle_20 (Or.inr (Or.inl ⟨fun q => h_13.elim (fun r => absurd r.2.1 (by omega)) (fun r => by rw [if_pos q] at r; exact absurd r.1 (by decide)), rfl, by rw [(h_13.elim (fun r => absurd r.2.1 (by omega)) id).2.2, hU]⟩))
