def NXT (V W : VV) (p : Int) : Prop := ∃ x y, (0 ≤ x ∧ x < V 55 1) ∧ (0 ≤ y ∧ y < V 55 1) ∧ goF (V 58) (V 55 1) (V 55 4) p x y ≠ -1 ∧ W 71 (goF (V 58) (V 55 1) (V 55 4) p x y) ≠ 0
def CLO (V : VV) (B : Int → Prop) : Prop := ∀ p, B p → (0 ≤ p ∧ p < V 55 4 * V 55 4) ∧ ∃ x y, (0 ≤ x ∧ x < V 55 1) ∧ (0 ≤ y ∧ y < V 55 1) ∧ goF (V 58) (V 55 1) (V 55 4) p x y ≠ -1 ∧ B (goF (V 58) (V 55 1) (V 55 4) p x y)
theorem n36 {n : Int} (h : 2 ≤ n ∧ n ≤ 36) : 4 ≤ n * n ∧ n * n ≤ 1296 := ⟨Int.mul_le_mul h.1 h.1 (by decide) (by omega), Int.mul_le_mul h.2 h.2 (by omega) (by decide)⟩
theorem on_M {V Z : VV} {p : Int} (h : ∀ B, CLO V B → ∀ p, B p → Z 71 p = 1) (hn : ∀ x y, 0 ≤ x → x < V 55 1 → 0 ≤ y → y < V 55 1 → goF (V 58) (V 55 1) (V 55 4) p x y = -1 ∨ Z 71 (goF (V 58) (V 55 1) (V 55 4) p x y) = 0) : ∀ B, CLO V B → ∀ j, B j → (up Z 71 p 0) 71 j = 1 := fun B hB j hj => by
  by_cases q : j = p
  · exfalso
    subst q
    obtain ⟨-, x, y, a, b, c, d⟩ := hB j hj
    have h1 := h B hB _ d
    rcases hn x y a.1 a.2 b.1 b.2 with z | z
    · exact c z
    · omega
  · rw [up_n _ (by omega)]; exact h B hB j hj
theorem on_Z {Z : VV} {p N : Int} (h : ∀ p, 0 ≤ p → p < N → Z 71 p = 0 ∨ Z 71 p = 1) : ∀ j, 0 ≤ j → j < N → (up Z 71 p 0) 71 j = 0 ∨ (up Z 71 p 0) 71 j = 1 := fun j j0 j1 => by
  by_cases q : j = p
  · rw [q, up_s]; exact Or.inl rfl
  · rw [up_n _ (by omega)]; exact h j j0 j1
theorem on_l {Z W : VV} {p j : Int} (h : ∀ j, Z 71 j ≠ 0 → W 71 j ≠ 0) (hj : (up Z 71 p 0) 71 j ≠ 0) : W 71 j ≠ 0 := by
  by_cases q : j = p
  · rw [q, up_s] at hj; exact absurd rfl hj
  · rw [up_n _ (by omega)] at hj; exact h j hj
theorem on_c {Z W : VV} {p N : Int} (h0 : 0 ≤ p) (h1 : p < N) (h : ∀ j, Z 71 j ≠ 0 → W 71 j ≠ 0) (hp : ¬ Z 71 p = 0) : cntI (fun j => (up Z 71 p 0) 71 j != 0) N.toNat + 1 ≤ cntI (fun j => W 71 j != 0) N.toNat := by
  refine cntI_lt _ (fun k k0 k1 hk => ?_) ⟨p, h0, by omega, by simp [up_s], by simpa using h p hp⟩
  have hk2 : (up Z 71 p 0) 71 k ≠ 0 := by simpa using hk
  simpa using on_l h hk2
set_option maxHeartbeats 4000000 in
theorem ok_X12_laysOn {V : VV} (hmo : MO V) : Ok NA yX12_laysOn cX12_laysOn 3 none 2 48 [vA 55] V (pV (fun V' => (∀ B, CLO V B → ∀ p, B p → V' 71 p = 1) ∧ (∀ p, 0 ≤ p → p < V 55 4 * V 55 4 → V' 71 p ≠ 0 → NXT V V' p) ∧ fr [71] V V')) := by
  refine Ok.intro (by decide +kernel) (Nat.le_of_ble_eq_true rfl) (fun X G hX hG hR hoa hoV => ?_)
  show J X G 0 [vA 55, vU, vU] [] V
  have hb9 := hmo.b
  have nn := n36 hb9.2.2.1
  refine j_iconst hX dX12_laysOn_0 ⟨by decide, by decide⟩ ?_
  refine j_is1 hX dX12_laysOn_1 rfl ?_
  have lp_2 : ∀ (f9 : Nat) (p : Int) (Y : VV), (0 ≤ p ∧ p ≤ V 55 4 * V 55 4) → (fr [71] V Y) → (∀ j, 0 ≤ j → j < p → Y 71 j = 1) → ((V 55 4 * V 55 4 - p).toNat) < f9 → J X G 2 [vA 55, vI p, vU] [] Y := by
    intro f9
    induction f9 with
    | zero => intro p Y _ _ _ hm; exact absurd hm (Nat.not_lt_zero _)
    | succ f9 ih_2 =>
      intro p Y hp hsy hA9 hm
      refine j_il1 hX dX12_laysOn_2 ?_
      refine j_al0 hX dX12_laysOn_3 rfl ?_
      refine j_getI hX hG fl_X12_145 (Or.inl rfl) (by decide) dX12_laysOn_4 ?_
      refine j_al0 hX dX12_laysOn_7 rfl ?_
      refine j_getI hX hG fl_X12_145 (Or.inl rfl) (by decide) dX12_laysOn_8 ?_
      refine j_eqS (st' := [vI (V 55 4), vI (V 55 4), vI p]) (by rw [hsy 55 4 (by decide)]) ?_
      refine j_imul hX dX12_laysOn_11 (by omega) ?_
      refine j_icmp_ge (tgt := 28) hX dX12_laysOn_12 (by decide) (fun h_12 => ?_) (fun h_12 => ?_)
      · skip
        refine j_iconst hX dX12_laysOn_28 ⟨by decide, by decide⟩ ?_
        refine j_is1 hX dX12_laysOn_29 rfl ?_
        have lp_30 : ∀ (f9 : Nat) (m : Int) (W : VV), (fr [71] V W) → (∀ B, CLO V B → ∀ p, B p → W 71 p = 1) → (∀ p, 0 ≤ p → p < V 55 4 * V 55 4 → W 71 p = 0 ∨ W 71 p = 1) → (m = 0 → ∀ p, 0 ≤ p → p < V 55 4 * V 55 4 → W 71 p ≠ 0 → NXT V W p) → ((cntI (fun p => W 71 p != 0) (V 55 4 * V 55 4).toNat).toNat + (if m = 0 then 0 else 1)) < f9 → J X G 30 [vA 55, vI m, vU] [] W := by
          intro f9
          induction f9 with
          | zero => intro m W _ _ _ _ hm; exact absurd hm (Nat.not_lt_zero _)
          | succ f9 ih_30 =>
            intro m W hs hMM hZZ hCC hm
            refine j_il1 hX dX12_laysOn_30 ?_
            refine j_if_eq (tgt := 89) hX dX12_laysOn_31 (by decide) (fun h_31 => ?_) (fun h_31 => ?_)
            · skip
              exact j_ret hR dX12_laysOn_89 ⟨hMM, hCC (by omega), hs⟩
            · skip
              have hm0 := hm
              rw [if_neg h_31] at hm0
              refine j_iconst hX dX12_laysOn_34 ⟨by decide, by decide⟩ ?_
              refine j_is1 hX dX12_laysOn_35 rfl ?_
              refine j_iconst hX dX12_laysOn_36 ⟨by decide, by decide⟩ ?_
              refine j_is2 hX dX12_laysOn_37 rfl ?_
              have lp_38 : ∀ (f9 : Nat) (m2 p : Int) (Z : VV), (0 ≤ p ∧ p ≤ V 55 4 * V 55 4) → (fr [71] V Z) → (∀ B, CLO V B → ∀ p, B p → Z 71 p = 1) → (∀ p, 0 ≤ p → p < V 55 4 * V 55 4 → Z 71 p = 0 ∨ Z 71 p = 1) → (m2 = 0 → (∀ j, Z 71 j = W 71 j) ∧ ∀ j, 0 ≤ j → j < p → Z 71 j ≠ 0 → NXT V W j) → (m2 ≠ 0 → cntI (fun p => Z 71 p != 0) (V 55 4 * V 55 4).toNat + 1 ≤ cntI (fun p => W 71 p != 0) (V 55 4 * V 55 4).toNat) → (∀ j, Z 71 j ≠ 0 → W 71 j ≠ 0) → ((V 55 4 * V 55 4 - p).toNat) < f9 → J X G 38 [vA 55, vI m2, vI p] [] Z := by
                intro f9
                induction f9 with
                | zero => intro m2 p Z _ _ _ _ _ _ _ hm; exact absurd hm (Nat.not_lt_zero _)
                | succ f9 ih_38 =>
                  intro m2 p Z hp2 hs2 hM2 hZ2 h02 h12 hle hm
                  refine j_il2 hX dX12_laysOn_38 ?_
                  refine j_al0 hX dX12_laysOn_39 rfl ?_
                  refine j_getI hX hG fl_X12_145 (Or.inl rfl) (by decide) dX12_laysOn_40 ?_
                  refine j_al0 hX dX12_laysOn_43 rfl ?_
                  refine j_getI hX hG fl_X12_145 (Or.inl rfl) (by decide) dX12_laysOn_44 ?_
                  refine j_eqS (st' := [vI (V 55 4), vI (V 55 4), vI p]) (by rw [hs2 55 4 (by decide)]) ?_
                  refine j_imul hX dX12_laysOn_47 (by omega) ?_
                  refine j_icmp_ge (tgt := 86) hX dX12_laysOn_48 (by decide) (fun h_48 => ?_) (fun h_48 => ?_)
                  · skip
                    refine j_goto (tgt := 30) hX dX12_laysOn_86 (by decide) ?_
                    refine j_fg2 ?_
                    exact ih_30 _ _ hs2 hM2 hZ2 (fun q j j0 j1 jz => by have h9 := h02 q; obtain ⟨x, y, a, b, c, d⟩ := h9.2 j j0 (by omega) jz; exact ⟨x, y, a, b, c, by rw [h9.1]; exact d⟩) (by have cz := cntI_b (fun p => Z 71 p != 0) (V 55 4 * V 55 4).toNat; have cw := cntI_b (fun p => W 71 p != 0) (V 55 4 * V 55 4).toNat; by_cases q : m2 = 0; (have e9 : (fun p => Z 71 p != 0) = (fun p => W 71 p != 0) := funext fun j => by rw [(h02 q).1 j]); (rw [if_pos q, e9]; omega); (have h8 := h12 q; rw [if_neg q]; omega))
                  · skip
                    have z58 : Z 58 = V 58 := funext fun b => hs2 58 b (by decide)
                    have z1 : Z 55 1 = V 55 1 := hs2 55 1 (by decide)
                    have z4 : Z 55 4 = V 55 4 := hs2 55 4 (by decide)
                    have moZ : MO Z := by unfold MO; rw [z1, z4, hs2 55 2 (by decide), hs2 55 3 (by decide)]; exact hmo
                    have hpl : p < V 55 4 * V 55 4 := by omega
                    refine j_al0 hX dX12_laysOn_51 rfl ?_
                    refine j_getR (q := 71) hX hG fl_X12_60 rfl rfl (by decide) dX12_laysOn_52 ?_
                    refine j_il2 hX dX12_laysOn_55 ?_
                    refine j_zald (n := 1296) hX hG (by decide) (by omega) dX12_laysOn_56 ?_
                    refine j_if_eq (tgt := 80) hX dX12_laysOn_57 (by decide) (fun h_57 => ?_) (fun h_57 => ?_)
                    · skip
                      refine j_inc2 hX dX12_laysOn_80 rfl (by omega) ?_
                      refine j_goto (tgt := 38) hX dX12_laysOn_83 (by decide) ?_
                      exact ih_38 _ _ _ (by omega) (by first | exact hs2 | exact fr_u hs2 (by decide)) (by first | exact hM2 | exact on_M hM2 hno) (by first | exact hZ2 | exact on_Z hZ2) (by first | exact fun q => absurd q (by decide) | exact fun q => ⟨(h02 q).1, lt_stepI (h02 q).2 (fun jz => by first | exact absurd h_57 jz | (have h9 := (h02 q).1; obtain ⟨x, y, a, b, c, d⟩ := hye; exact ⟨x, y, a, b, c, by rw [← h9]; exact d⟩))⟩) (by first | exact h12 | exact fun _ => on_c hp2.1 hpl hle h_57) (by first | exact hle | exact fun j h => on_l hle h) (by omega)
                    · skip
                      refine j_al0 hX dX12_laysOn_60 rfl ?_
                      refine j_il2 hX dX12_laysOn_61 ?_
                      refine j_cVI1 (ci := 12) hX hG lk_X12_340 (ok_X12_hasNext moZ (by rw [z4]; omega)) (by decide) rfl (Nat.le_of_ble_eq_true rfl) (Nat.le_of_ble_eq_true rfl) (Nat.le_of_ble_eq_true rfl) rfl dX12_laysOn_62 (fun x_62 V_62 h_62 => ?_)
                      obtain ⟨r_62, e2_62⟩ := h_62
                      have e3_62 := e2_62.symm
                      subst e3_62
                      rw [z58, z1, z4] at r_62
                      refine j_if_eq (tgt := 71) hX dX12_laysOn_65 (by decide) (fun h_65 => ?_) (fun h_65 => ?_)
                      · skip
                        have hno := r_62.elim (fun q => absurd q.1 (by omega)) (fun q => q.2)
                        refine j_al0 hX dX12_laysOn_71 rfl ?_
                        refine j_getR (q := 71) hX hG fl_X12_60 rfl rfl (by decide) dX12_laysOn_72 ?_
                        refine j_il2 hX dX12_laysOn_75 ?_
                        refine j_iconst hX dX12_laysOn_76 ⟨by decide, by decide⟩ ?_
                        refine j_zast (n := 1296) hX hG (by decide) (by omega) (by omega) dX12_laysOn_77 ?_
                        refine j_iconst hX dX12_laysOn_78 ⟨by decide, by decide⟩ ?_
                        refine j_is1 hX dX12_laysOn_79 rfl ?_
                        refine j_inc2 hX dX12_laysOn_80 rfl (by omega) ?_
                        refine j_goto (tgt := 38) hX dX12_laysOn_83 (by decide) ?_
                        exact ih_38 _ _ _ (by omega) (by first | exact hs2 | exact fr_u hs2 (by decide)) (by first | exact hM2 | exact on_M hM2 hno) (by first | exact hZ2 | exact on_Z hZ2) (by first | exact fun q => absurd q (by decide) | exact fun q => ⟨(h02 q).1, lt_stepI (h02 q).2 (fun jz => by first | exact absurd h_57 jz | (have h9 := (h02 q).1; obtain ⟨x, y, a, b, c, d⟩ := hye; exact ⟨x, y, a, b, c, by rw [← h9]; exact d⟩))⟩) (by first | exact h12 | exact fun _ => on_c hp2.1 hpl hle h_57) (by first | exact hle | exact fun j h => on_l hle h) (by omega)
                      · skip
                        have hye := r_62.elim (fun q => q.2) (fun q => absurd q.1 h_65)
                        refine j_goto (tgt := 80) hX dX12_laysOn_68 (by decide) ?_
                        refine j_inc2 hX dX12_laysOn_80 rfl (by omega) ?_
                        refine j_goto (tgt := 38) hX dX12_laysOn_83 (by decide) ?_
                        exact ih_38 _ _ _ (by omega) (by first | exact hs2 | exact fr_u hs2 (by decide)) (by first | exact hM2 | exact on_M hM2 hno) (by first | exact hZ2 | exact on_Z hZ2) (by first | exact fun q => absurd q (by decide) | exact fun q => ⟨(h02 q).1, lt_stepI (h02 q).2 (fun jz => by first | exact absurd h_57 jz | (have h9 := (h02 q).1; obtain ⟨x, y, a, b, c, d⟩ := hye; exact ⟨x, y, a, b, c, by rw [← h9]; exact d⟩))⟩) (by first | exact h12 | exact fun _ => on_c hp2.1 hpl hle h_57) (by first | exact hle | exact fun j h => on_l hle h) (by omega)
              exact lp_38 _ 0 0 _ ⟨by decide, by omega⟩ hs hMM hZZ (fun _ => ⟨fun _ => rfl, fun j j0 j1 => by omega⟩) (fun q => absurd rfl q) (fun j h => h) (Nat.lt_succ_self _)
        exact lp_30 _ 1 _ hsy (fun B hB p h => hA9 p (hB p h).1.1 (by have := (hB p h).1.2; omega)) (fun j j0 j1 => Or.inr (hA9 j j0 (by omega))) (fun q => absurd q (by decide)) (Nat.lt_succ_self _)
      · skip
        refine j_al0 hX dX12_laysOn_15 rfl ?_
        refine j_getR (q := 71) hX hG fl_X12_60 rfl rfl (by decide) dX12_laysOn_16 ?_
        refine j_il1 hX dX12_laysOn_19 ?_
        refine j_iconst hX dX12_laysOn_20 ⟨by decide, by decide⟩ ?_
        refine j_zast (n := 1296) hX hG (by decide) (by omega) (by omega) dX12_laysOn_21 ?_
        refine j_inc1 hX dX12_laysOn_22 rfl (by omega) ?_
        refine j_goto (tgt := 2) hX dX12_laysOn_25 (by decide) ?_
        exact ih_2 _ _ (by omega) (fr_u hsy (by decide)) (lt_stepI (fun j j0 j1 => by rw [up_n _ (by omega)]; exact hA9 j j0 j1) (up_s ..)) (by omega)
  exact lp_2 _ _ _ (by omega) fr_0 (fun j j0 j1 => by omega) (Nat.lt_succ_self _)
