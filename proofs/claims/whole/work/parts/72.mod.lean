theorem g36 {g : Int} (hg : 2 ≤ g ∧ g ≤ 6) : 4 ≤ g * g ∧ g * g ≤ 36 := by
  rcases g26 hg with e | e | e | e | e <;> rw [e] <;> decide
theorem gof_b {V : VV} {p x y : Int} (ho : MO V) (hp : 0 ≤ p ∧ p < V 55 4 * V 55 4) (hx : 0 ≤ x ∧ x < V 55 1) (hy : 0 ≤ y ∧ y < V 55 1) (h : ¬ goF (V 58) (V 55 1) (V 55 4) p x y = -1) : 0 ≤ goF (V 58) (V 55 1) (V 55 4) p x y ∧ goF (V 58) (V 55 1) (V 55 4) p x y < 1296 := by
  have hb := go_b ho hp hx hy
  have hn := ho.b
  unfold goF at h ⊢
  by_cases z : V 58 (V 55 1 * (p / V 55 4) + x) = V 58 (V 55 1 * (p % V 55 4) + y)
  · rw [if_pos z]; omega
  · rw [if_neg z] at h; exact absurd rfl h
set_option maxHeartbeats 4000000 in
theorem ok_X12_hasNext {V : VV} {p : Int} (hmo : MO V) (hp : 0 ≤ p ∧ p < V 55 4 * V 55 4) : Ok NA yX12_hasNext cX12_hasNext 4 (some .boolean) 1 25 [vA 55, vI p] V (pI (fun x9 V' => ((x9 = 1 ∧ ∃ x y, (0 ≤ x ∧ x < V 55 1) ∧ (0 ≤ y ∧ y < V 55 1) ∧ goF (V 58) (V 55 1) (V 55 4) p (x) (y) ≠ -1 ∧ V 71 (goF (V 58) (V 55 1) (V 55 4) p (x) (y)) ≠ 0) ∨ (x9 = 0 ∧ ∀ x y, 0 ≤ x → x < V 55 1 → 0 ≤ y → y < V 55 1 → goF (V 58) (V 55 1) (V 55 4) p (x) (y) = -1 ∨ V 71 (goF (V 58) (V 55 1) (V 55 4) p (x) (y)) = 0)) ∧ V' = V)) := by
  refine Ok.intro (by decide +kernel) (Nat.le_of_ble_eq_true rfl) (fun X G hX hG hR hoa hoV => ?_)
  show J X G 0 [vA 55, vI p, vU, vU] [] V
  have hb9 := hmo.b
  have gg := g36 hb9.1
  refine j_iconst hX dX12_hasNext_0 ⟨by decide, by decide⟩ ?_
  refine j_is2 hX dX12_hasNext_1 rfl ?_
  have lp_2 : ∀ (f9 : Nat) (k : Int), (0 ≤ k ∧ k ≤ V 55 1 * V 55 1) → (∀ j, 0 ≤ j → j < k → goF (V 58) (V 55 1) (V 55 4) p (j / V 55 1) (j % V 55 1) = -1 ∨ V 71 (goF (V 58) (V 55 1) (V 55 4) p (j / V 55 1) (j % V 55 1)) = 0) → ((V 55 1 * V 55 1 - k).toNat) < f9 → J X G 2 [vA 55, vI p, vI k, vU] [] V := by
    intro f9
    induction f9 with
    | zero => intro k _ _ hm; exact absurd hm (Nat.not_lt_zero _)
    | succ f9 ih_2 =>
      intro k hk hTT hm
      refine j_il2 hX dX12_hasNext_2 ?_
      refine j_al0 hX dX12_hasNext_3 rfl ?_
      refine j_getI hX hG fl_X12_136 (Or.inl rfl) (by decide) dX12_hasNext_4 ?_
      refine j_al0 hX dX12_hasNext_7 rfl ?_
      refine j_getI hX hG fl_X12_136 (Or.inl rfl) (by decide) dX12_hasNext_8 ?_
      refine j_imul hX dX12_hasNext_11 (by omega) ?_
      refine j_icmp_ge (tgt := 55) hX dX12_hasNext_12 (by decide) (fun h_12 => ?_) (fun h_12 => ?_)
      · skip
        refine j_iconst hX dX12_hasNext_55 ⟨by decide, by decide⟩ ?_
        exact j_retZ hR dX12_hasNext_56 (by omega) ⟨Or.inr ⟨rfl, fun x y x0 x1 y0 y1 => by
      have w := wd2 (g := V 55 1) (N := V 55 1) (by omega) ⟨x0, x1⟩ ⟨y0, y1⟩
      have d := dm1 (g := V 55 1) (a := x) ⟨y0, y1⟩
      have r := hTT _ w.1 (by omega)
      rw [d.1, d.2] at r
      exact r⟩, rfl⟩
      · skip
        have q1 : 0 ≤ k / V 55 1 ∧ k / V 55 1 < V 55 1 := ⟨Int.ediv_nonneg hk.1 (by omega), Int.ediv_lt_of_lt_mul (by omega) (by omega)⟩
        have q2 := md_b k (n := V 55 1) (by omega)
        refine j_al0 hX dX12_hasNext_15 rfl ?_
        refine j_il1 hX dX12_hasNext_16 ?_
        refine j_il2 hX dX12_hasNext_17 ?_
        refine j_al0 hX dX12_hasNext_18 rfl ?_
        refine j_getI hX hG fl_X12_136 (Or.inl rfl) (by decide) dX12_hasNext_19 ?_
        refine j_idiv hX dX12_hasNext_22 (by omega) hk.1 ?_
        refine j_il2 hX dX12_hasNext_23 ?_
        refine j_al0 hX dX12_hasNext_24 rfl ?_
        refine j_getI hX hG fl_X12_136 (Or.inl rfl) (by decide) dX12_hasNext_25 ?_
        refine j_irem hX dX12_hasNext_28 (by omega) hk.1 ?_
        refine j_pVI3 (ci := 12) hX hG lk_X12_334 (ok_X12_goes (by first | assumption | omega | decide) (by first | assumption | omega | decide) q1 q2) (by decide) rfl (Nat.le_of_ble_eq_true rfl) (Nat.le_of_ble_eq_true rfl) (Nat.le_of_ble_eq_true rfl) rfl dX12_hasNext_29 ?_
        refine j_is3 hX dX12_hasNext_32 rfl ?_
        refine j_il3 hX dX12_hasNext_33 ?_
        refine j_iconst hX dX12_hasNext_34 ⟨by decide, by decide⟩ ?_
        refine j_icmp_eq (tgt := 49) hX dX12_hasNext_35 (by decide) (fun h_35 => ?_) (fun h_35 => ?_)
        · skip
          refine j_inc2 hX dX12_hasNext_49 rfl (by omega) ?_
          refine j_goto (tgt := 2) hX dX12_hasNext_52 (by decide) ?_
          refine j_fg3 ?_
          exact ih_2 _ (by omega) (lt_stepI hTT (by first | exact Or.inl h_35 | exact Or.inr h_44)) (by omega)
        · skip
          have gi := gof_b hmo hp q1 q2 h_35
          refine j_al0 hX dX12_hasNext_38 rfl ?_
          refine j_getR (q := 71) hX hG fl_X12_60 rfl rfl (by decide) dX12_hasNext_39 ?_
          refine j_il3 hX dX12_hasNext_42 ?_
          refine j_zald (n := 1296) hX hG (by decide) gi dX12_hasNext_43 ?_
          refine j_if_eq (tgt := 49) hX dX12_hasNext_44 (by decide) (fun h_44 => ?_) (fun h_44 => ?_)
          · skip
            refine j_inc2 hX dX12_hasNext_49 rfl (by omega) ?_
            refine j_goto (tgt := 2) hX dX12_hasNext_52 (by decide) ?_
            refine j_fg3 ?_
            exact ih_2 _ (by omega) (lt_stepI hTT (by first | exact Or.inl h_35 | exact Or.inr h_44)) (by omega)
          · skip
            refine j_iconst hX dX12_hasNext_47 ⟨by decide, by decide⟩ ?_
            exact j_retZ hR dX12_hasNext_48 (by omega) ⟨Or.inl ⟨rfl, _, _, q1, q2, h_35, h_44⟩, rfl⟩
  exact lp_2 _ _ ⟨by decide, by omega⟩ (fun j j0 j1 => by omega) (Nat.lt_succ_self _)
