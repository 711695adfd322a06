theorem least64 {x : Int} (h : ∃ b : Nat, b < 64 ∧ bt 64 x b = true) : ∃ c : Nat, c < 64 ∧ leastB x = c ∧ bt 64 x c = true ∧ ∀ j : Nat, j < c → bt 64 x j = false := by
  have : ∀ m : Nat, (∃ k : Nat, k < m ∧ k < 64 ∧ bt 64 x k = true) → ∃ k : Nat, (k < 64 ∧ bt 64 x k = true) ∧ ∀ j, j < k → ¬ (j < 64 ∧ bt 64 x j = true) := by
    intro m
    induction m with
    | zero => rintro ⟨k, hk, -⟩; omega
    | succ m ih =>
      rintro ⟨k, hk, h1, h2⟩
      by_cases e : ∃ j, j < k ∧ j < 64 ∧ bt 64 x j = true
      · obtain ⟨j, j1, j2, j3⟩ := e
        exact ih ⟨j, by omega, j2, j3⟩
      · exact ⟨k, ⟨h1, h2⟩, fun j hj q => e ⟨j, hj, q⟩⟩
  obtain ⟨b, hb, hb2⟩ := h
  obtain ⟨k, ⟨k1, k2⟩, k3⟩ := this (b + 1) ⟨b, by omega, hb, hb2⟩
  have hn : ∀ j : Nat, j < k → bt 64 x j = false := fun j hj => by
    cases z : bt 64 x j with
    | false => rfl
    | true => exact absurd ⟨by omega, z⟩ (k3 j hj)
  exact ⟨k, k1, leastB_of k1 k2 hn, k2, hn⟩
theorem LEX_c {L : Int} {x x' y : Int → Int} (e : ∀ k, 0 ≤ k → k < L → x k = x' k) (h : LEX L x y) : LEX L x' y := by
  rcases h with h | ⟨k, k0, k1, k2, k3⟩
  · exact Or.inl fun k k0 k1 => by rw [← e k k0 k1]; exact h k k0 k1
  · exact Or.inr ⟨k, k0, k1, by rw [← e k k0 k1]; exact k2, fun j j0 j1 => by rw [← e j j0 (by omega)]; exact k3 j j0 j1⟩
theorem FST_c {T : Int → Int} {g w L : Int} {R x x' : Int → Int} (h : FST T g w L R x) (e : ∀ k, 0 ≤ k → k < L → x k = x' k) : FST T g w L R x' := by
  refine ⟨⟨fun k k0 k1 => by rw [← e k k0 k1]; exact h.1.1 k k0 k1, fun k k0 k1 => ?_⟩, fun y hy => LEX_c e (h.2 y hy)⟩
  rw [← stepF_c (by omega) e k0 k1]; exact h.1.2 k k0 k1
set_option maxHeartbeats 4000000 in
theorem ok_X10_lookBack {V : VV} {s : Int} (ho9 : RO V 15) (ht : TR V 15) (hn : 1 ≤ V 23 1 ∧ V 23 1 ≤ 16) (hQ : ∀ k, 0 ≤ k → k < V 23 1 → 0 ≤ V 24 k ∧ V 24 k < V 15 3) (hl : LK V 17 (V 15 5) (V 16) (fun e => e / V 15 3) (fun e => e % V 15 6)) (hs9 : 0 ≤ s ∧ s < V 15 6) : Ok NC yX10_lookBack cX10_lookBack 9 none 4 86 [vA 49, vA 15, vA 23, vI s] V (pV (fun V' => (∀ k, 0 ≤ k → k ≤ V 23 1 → ∀ b : Nat, b < 64 → (bt 64 (V' 52 (k)) b = true ↔ (b : Int) < V 15 6 ∧ rtN (V 16) (labF (V 24) (V 15 4) (V 23 1)) (V 15 3) (V 15 6) (V 15 5) (V 23 1) s (V 23 1 - (k)).toNat b)) ∧ fr [52] V V')) := by
  refine Ok.intro (by decide +kernel) (Nat.le_of_ble_eq_true rfl) (fun X G hX hG hR hoa hoV => ?_)
  show J X G 0 [vA 49, vA 15, vA 23, vI s, vU, vU, vU, vU, vU] [] V
  have hb9 := ho9.b
  have hnn := ho9.n
  have htb := ht.b ho9
  have hm9 : ∀ z : Int, 0 ≤ V 24 (z % V 23 1) ∧ V 24 (z % V 23 1) < V 15 3 := fun z => hQ _ (md_b z hn.1).1 (md_b z hn.1).2
  refine j_al0 hX dX10_lookBack_0 rfl ?_
  refine j_getR (q := 52) hX hG fl_X10_18 rfl rfl (by decide) dX10_lookBack_1 ?_
  refine j_al2 hX dX10_lookBack_4 rfl ?_
  refine j_getI hX hG fl_X10_41 (Or.inl rfl) (by decide) dX10_lookBack_5 ?_
  refine j_lconst (x := 1) hX dX10_lookBack_8 rfl ⟨by decide, by decide⟩ ?_
  refine j_il3 hX dX10_lookBack_9 ?_
  refine j_lshl hX dX10_lookBack_10 (by omega) (p2_62 (by omega)) ?_
  refine j_cSV3 hX hG lk_X10_37 (ok_X11_putBits_in (n := 17) (by decide) (by first | assumption | decide) (by omega)) (Nat.le_of_ble_eq_true rfl) (Nat.le_of_ble_eq_true rfl) (Nat.le_of_ble_eq_true rfl) rfl dX10_lookBack_11 (fun V_11 h_11 => ?_)
  subst h_11
  refine j_al2 hX dX10_lookBack_14 rfl ?_
  refine j_getI hX hG fl_X10_41 (Or.inl rfl) (by decide) dX10_lookBack_15 ?_
  refine j_eqS (st' := [vI (V 23 1)]) (by rw [up_n _ (by omega)]) ?_
  refine j_iconst hX dX10_lookBack_18 ⟨by decide, by decide⟩ ?_
  refine j_isub hX dX10_lookBack_19 (by omega) ?_
  refine j_is4 hX dX10_lookBack_20 rfl ?_
  have lp_22 : ∀ (f9 : Nat) (k : Int) (W : VV), (-1 ≤ k ∧ k < V 23 1) → (fr [52] V W) → (∀ j, k < j → j ≤ V 23 1 → ∀ b : Nat, b < 64 → (bt 64 (W 52 (j)) b = true ↔ (b : Int) < V 15 6 ∧ rtN (V 16) (labF (V 24) (V 15 4) (V 23 1)) (V 15 3) (V 15 6) (V 15 5) (V 23 1) s (V 23 1 - (j)).toNat b)) → ((k + 1).toNat) < f9 → J X G 22 [vA 49, vA 15, vA 23, vI s, vI k, vU, vU, vU, vU] [] W := by
    intro f9
    induction f9 with
    | zero => intro k W _ _ _ hm; exact absurd hm (Nat.not_lt_zero _)
    | succ f9 ih_22 =>
      intro k W hk hs hRr hm
      refine j_il4 hX dX10_lookBack_22 ?_
      refine j_if_lt (tgt := 108) hX dX10_lookBack_24 (by decide) (fun h_24 => ?_) (fun h_24 => ?_)
      · skip
        exact j_ret hR dX10_lookBack_108 ⟨fun j j0 j1 => hRr j (by omega) j1, hs⟩
      · skip
        refine j_al1 hX dX10_lookBack_27 rfl ?_
        refine j_al2 hX dX10_lookBack_28 rfl ?_
        refine j_il4 hX dX10_lookBack_29 ?_
        have q15 : ∀ b, W 15 b = V 15 b := fun b => hs 15 b (by decide)
        have q17 : ∀ b, W 17 b = V 17 b := fun b => hs 17 b (by decide)
        have q23 : W 23 1 = V 23 1 := hs 23 1 (by decide)
        have q24 : W 24 = V 24 := funext fun b => hs 24 b (by decide)
        have q6 := q15 6
        have q3 := q15 3
        have roW : RO W 15 := ho9.sm q15
        have hmk := hm9 (k + V 15 4 - 2)
        refine j_pSI3 hX hG lk_X10_46 (ok_X10_labelOf roW (Or.inr (Or.inl rfl)) (by decide) (by rw [q23]; exact hn) (by omega)) (Nat.le_of_ble_eq_true rfl) (Nat.le_of_ble_eq_true rfl) (Nat.le_of_ble_eq_true rfl) rfl dX10_lookBack_31 ?_
        refine j_eqS (st' := [vI (V 24 ((k + V 15 4 - 2) % V 23 1))]) (by show [vI (V 24 ((k + V 15 4 - 2) % V 23 1))] = [vI (W 24 ((k + W 15 4 - 2) % W 23 1))]; rw [q24, q15, q23]) ?_
        refine j_is5 hX dX10_lookBack_34 rfl ?_
        refine j_lconst (x := 0) hX dX10_lookBack_36 rfl ⟨by decide, by decide⟩ ?_
        refine j_ls6 hX dX10_lookBack_37 rfl ?_
        refine j_iconst hX dX10_lookBack_39 ⟨by decide, by decide⟩ ?_
        refine j_is8 hX dX10_lookBack_40 rfl ?_
        have lp_42 : ∀ (f9 : Nat) (c d : Int), (0 ≤ d ∧ d ≤ V 15 6) → (∀ b : Nat, b < 64 → (bt 64 c b = true ↔ (b : Int) < d ∧ rtN (V 16) (labF (V 24) (V 15 4) (V 23 1)) (V 15 3) (V 15 6) (V 15 5) (V 23 1) s (V 23 1 - k).toNat b)) → ((V 15 6 - d).toNat) < f9 → J X G 42 [vA 49, vA 15, vA 23, vI s, vI k, vI (V 24 ((k + V 15 4 - 2) % V 23 1)), vL c, vU, vI d] [] W := by
          intro f9
          induction f9 with
          | zero => intro c d _ _ hm; exact absurd hm (Nat.not_lt_zero _)
          | succ f9 ih_42 =>
            intro c d hd hset hm
            refine j_il8 hX dX10_lookBack_42 ?_
            refine j_al1 hX dX10_lookBack_44 rfl ?_
            refine j_getI hX hG fl_X10_21 (Or.inl rfl) (by decide) dX10_lookBack_45 ?_
            refine j_icmp_ge (tgt := 91) hX dX10_lookBack_48 (by decide) (fun h_48 => ?_) (fun h_48 => ?_)
            · skip
              refine j_al0 hX dX10_lookBack_91 rfl ?_
              refine j_getR (q := 52) hX hG fl_X10_18 rfl rfl (by decide) dX10_lookBack_92 ?_
              refine j_il4 hX dX10_lookBack_95 ?_
              refine j_ll6 hX dX10_lookBack_97 ?_
              refine j_cSV3 hX hG lk_X10_37 (ok_X11_putBits_in (n := 17) (by decide) (by first | assumption | decide) (by omega)) (Nat.le_of_ble_eq_true rfl) (Nat.le_of_ble_eq_true rfl) (Nat.le_of_ble_eq_true rfl) rfl dX10_lookBack_99 (fun V_99 h_99 => ?_)
              subst h_99
              refine j_inc4 hX dX10_lookBack_102 rfl (by omega) ?_
              refine j_goto (tgt := 22) hX dX10_lookBack_105 (by decide) ?_
              refine j_fg5 ?_
              refine j_fg6 ?_
              refine j_fg8 ?_
              exact ih_22 _ _ (by omega) (fr_u hs (by decide)) (fun j j0 j1 b hb => by by_cases e : j = k; (rw [e, up_s, hset b hb, show d = V 15 6 by omega]); (rw [up_n _ (by omega)]; exact hRr j (by omega) j1 b hb)) (by omega)
            · skip
              have hch : (band 64 (W 17 (V 24 ((k + V 15 4 - 2) % V 23 1) * 36 + d)) (W 52 (k + 1)) ≠ 0) ↔ rtN (V 16) (labF (V 24) (V 15 4) (V 23 1)) (V 15 3) (V 15 6) (V 15 5) (V 23 1) s (V 23 1 - k).toNat d := by
                rw [q17, rt_S (by omega) hk.2, ← bne_iff_ne, band_nz]
                constructor
                · rintro ⟨b, hb, h1, h2⟩
                  have h3 := (hl _ _ hmk.1 (by omega) hd.1 (by omega) b hb).mp h1
                  have h4 := (hRr (k + 1) (by omega) (by omega) b hb).mp h2
                  obtain ⟨e, e0, e1, e2, e3, e4⟩ := h3
                  exact ⟨e, ⟨e0, e1⟩, e2, e3, by rw [show e % V 15 6 = (b : Int) from e4]; exact h4.2⟩
                · rintro ⟨e, ⟨e0, e1⟩, e2, e3, e4⟩
                  have m := md_b e (n := V 15 6) (by omega)
                  refine ⟨(e % V 15 6).toNat, by omega, (hl _ _ hmk.1 (by omega) hd.1 (by omega) _ (by omega)).mpr ⟨e, e0, e1, e2, e3, ?_⟩, (hRr (k + 1) (by omega) (by omega) _ (by omega)).mpr ⟨by omega, ?_⟩⟩
                  · show e % V 15 6 = (((e % V 15 6).toNat : Nat) : Int)
                    omega
                  · rw [show (((e % V 15 6).toNat : Nat) : Int) = e % V 15 6 by omega]; exact e4
              refine j_al1 hX dX10_lookBack_51 rfl ?_
              refine j_il5 hX dX10_lookBack_52 ?_
              refine j_il8 hX dX10_lookBack_54 ?_
              refine j_pVL2 (ci := 8) hX hG lk_X10_90 (ok_X8_after (Or.inr (Or.inl rfl)) (by omega) (by omega)) (by decide) rfl (Nat.le_of_ble_eq_true rfl) (Nat.le_of_ble_eq_true rfl) (Nat.le_of_ble_eq_true rfl) rfl dX10_lookBack_56 ?_
              try dsimp only [Int.reduceAdd]
              refine j_al0 hX dX10_lookBack_59 rfl ?_
              refine j_getR (q := 52) hX hG fl_X10_18 rfl rfl (by decide) dX10_lookBack_60 ?_
              refine j_il4 hX dX10_lookBack_63 ?_
              refine j_iconst hX dX10_lookBack_65 ⟨by decide, by decide⟩ ?_
              refine j_iadd hX dX10_lookBack_66 (by omega) ?_
              refine j_pSL2 hX hG lk_X10_54 (ok_X11_bitsAt_in (n := 17) (by decide) (by first | assumption | decide) (by omega)) (Nat.le_of_ble_eq_true rfl) (Nat.le_of_ble_eq_true rfl) (Nat.le_of_ble_eq_true rfl) rfl dX10_lookBack_67 ?_
              refine j_land hX dX10_lookBack_70 ?_
              refine j_lconst (x := 0) hX dX10_lookBack_71 rfl ⟨by decide, by decide⟩ ?_
              refine j_lcmp_eq (tgt := 85) hX dX10_lookBack_72 dX10_lookBack_73 (by decide) (fun h_73 => ?_) (fun h_73 => ?_)
              · skip
                refine j_inc8 hX dX10_lookBack_85 rfl (by omega) ?_
                refine j_goto (tgt := 42) hX dX10_lookBack_88 (by decide) ?_
                exact ih_42 _ _ (by omega) (fun b hb => by first | (rw [bt_or, Bool.or_eq_true, hset b hb, bt_pow1 hb, decide_eq_true_eq]; constructor; (rintro (⟨z, z2⟩ | z); exact ⟨by omega, z2⟩; exact ⟨by omega, by rw [show (b : Int) = d by omega]; exact hch.mp h_73⟩); (rintro ⟨z, z2⟩; by_cases e : (b : Int) = d; exact Or.inr (by omega); exact Or.inl ⟨by omega, z2⟩)) | (rw [hset b hb]; constructor; (rintro ⟨z, z2⟩; exact ⟨by omega, z2⟩); (rintro ⟨z, z2⟩; refine ⟨?_, z2⟩; by_cases e : (b : Int) = d; (exfalso; rw [e] at z2; exact hch.mpr z2 h_73); omega))) (by omega)
              · skip
                refine j_ll6 hX dX10_lookBack_76 ?_
                refine j_lconst (x := 1) hX dX10_lookBack_78 rfl ⟨by decide, by decide⟩ ?_
                refine j_il8 hX dX10_lookBack_79 ?_
                refine j_lshl hX dX10_lookBack_81 (by omega) (p2_62 (by omega)) ?_
                refine j_lor hX dX10_lookBack_82 ?_
                refine j_ls6 hX dX10_lookBack_83 rfl ?_
                refine j_inc8 hX dX10_lookBack_85 rfl (by omega) ?_
                refine j_goto (tgt := 42) hX dX10_lookBack_88 (by decide) ?_
                exact ih_42 _ _ (by omega) (fun b hb => by first | (rw [bt_or, Bool.or_eq_true, hset b hb, bt_pow1 hb, decide_eq_true_eq]; constructor; (rintro (⟨z, z2⟩ | z); exact ⟨by omega, z2⟩; exact ⟨by omega, by rw [show (b : Int) = d by omega]; exact hch.mp h_73⟩); (rintro ⟨z, z2⟩; by_cases e : (b : Int) = d; exact Or.inr (by omega); exact Or.inl ⟨by omega, z2⟩)) | (rw [hset b hb]; constructor; (rintro ⟨z, z2⟩; exact ⟨by omega, z2⟩); (rintro ⟨z, z2⟩; refine ⟨?_, z2⟩; by_cases e : (b : Int) = d; (exfalso; rw [e] at z2; exact hch.mpr z2 h_73); omega))) (by omega)
        exact lp_42 _ _ _ ⟨by decide, by omega⟩ (fun b hb => by rw [bt_0]; constructor; (intro z; cases z); (rintro ⟨z, -⟩; omega)) (Nat.lt_succ_self _)
  exact lp_22 _ _ _ (by omega) (fr_u fr_0 (by decide)) (fun j j0 j1 b hb => by rw [show j = V 23 1 by omega, up_s, bt_pow1 hb, decide_eq_true_eq, show (V 23 1 - V 23 1).toNat = 0 by omega]; show _ ↔ _ ∧ (b : Int) = s; exact ⟨fun h => ⟨by omega, by omega⟩, fun h => by omega⟩) (Nat.lt_succ_self _)
set_option maxHeartbeats 4000000 in
theorem ok_X10_walk {V : VV} {s : Int} (ho9 : RO V 15) (ht : TR V 15) (hn : 1 ≤ V 23 1 ∧ V 23 1 ≤ 16) (hQ : ∀ k, 0 ≤ k → k < V 23 1 → 0 ≤ V 24 k ∧ V 24 k < V 15 3) (hl : LK V 17 (V 15 5) (V 16) (fun e => e / V 15 3) (fun e => e % V 15 6)) (hs9 : 0 ≤ s ∧ s < V 15 6) (hrt : ∀ k, 0 ≤ k → k ≤ V 23 1 → ∀ b : Nat, b < 64 → (bt 64 (V 52 (k)) b = true ↔ (b : Int) < V 15 6 ∧ rtN (V 16) (labF (V 24) (V 15 4) (V 23 1)) (V 15 3) (V 15 6) (V 15 5) (V 23 1) s (V 23 1 - (k)).toNat b)) (hst : rtN (V 16) (labF (V 24) (V 15 4) (V 23 1)) (V 15 3) (V 15 6) (V 15 5) (V 23 1) s (V 23 1).toNat s) : Ok NC yX10_walk cX10_walk 9 none 4 86 [vA 49, vA 15, vA 23, vI s, vA 29] V (pV (fun V' => (∃ nd, WLK (V 16) (V 24) (V 15 3) (V 15 6) (V 15 5) (V 15 4) (V 23 1) s nd ∧ ∀ k, 0 ≤ k → k < V 23 1 → V' 30 k = nd k * V 15 3 / V 15 6) ∧ V' 29 1 = V 23 1 ∧ fr [29, 30] V V')) := by
  refine Ok.intro (by decide +kernel) (Nat.le_of_ble_eq_true rfl) (fun X G hX hG hR hoa hoV => ?_)
  show J X G 0 [vA 49, vA 15, vA 23, vI s, vA 29, vU, vU, vU, vU] [] V
  have hb9 := ho9.b
  have hnn := ho9.n
  have htb := ht.b ho9
  have hm9 : ∀ z : Int, 0 ≤ V 24 (z % V 23 1) ∧ V 24 (z % V 23 1) < V 15 3 := fun z => hQ _ (md_b z hn.1).1 (md_b z hn.1).2
  refine j_il3 hX dX10_walk_0 ?_
  refine j_is5 hX dX10_walk_1 rfl ?_
  refine j_al4 hX dX10_walk_3 rfl ?_
  refine j_al2 hX dX10_walk_5 rfl ?_
  refine j_getI hX hG fl_X10_41 (Or.inl rfl) (by decide) dX10_walk_6 ?_
  refine j_putI hX hG fp_X10_41 rfl (by decide) dX10_walk_9 ?_
  refine j_iconst hX dX10_walk_12 ⟨by decide, by decide⟩ ?_
  refine j_is6 hX dX10_walk_13 rfl ?_
  have lp_15 : ∀ (f9 : Nat) (k : Int) (nd : Int → Int) (W : VV), (0 ≤ k ∧ k ≤ V 23 1) → (fr [29, 30] V W) → (W 29 1 = V 23 1) → (∀ j, 0 ≤ j → j < k → W 30 j = nd j * V 15 3 / V 15 6) → (nd 0 = s) → (0 ≤ nd k ∧ nd k < V 15 6) → (rtN (V 16) (labF (V 24) (V 15 4) (V 23 1)) (V 15 3) (V 15 6) (V 15 5) (V 23 1) s (V 23 1 - k).toNat (nd k)) → (∀ j, 0 ≤ j → j < k → (∃ e, (0 ≤ e ∧ e < V 15 5) ∧ V 16 e = (labF (V 24) (V 15 4) (V 23 1)) j ∧ e / V 15 3 = nd j ∧ e % V 15 6 = nd (j + 1)) ∧ rtN (V 16) (labF (V 24) (V 15 4) (V 23 1)) (V 15 3) (V 15 6) (V 15 5) (V 23 1) s (V 23 1 - (j + 1)).toNat (nd (j + 1)) ∧ ∀ e, (0 ≤ e ∧ e < V 15 5) → V 16 e = (labF (V 24) (V 15 4) (V 23 1)) j → e / V 15 3 = nd j → rtN (V 16) (labF (V 24) (V 15 4) (V 23 1)) (V 15 3) (V 15 6) (V 15 5) (V 23 1) s (V 23 1 - (j + 1)).toNat (e % V 15 6) → nd (j + 1) ≤ e % V 15 6) → ((V 23 1 - k).toNat) < f9 → J X G 15 [vA 49, vA 15, vA 23, vI s, vA 29, vI (nd k), vI k, vU, vU] [] W := by
    intro f9
    induction f9 with
    | zero => intro k nd W _ _ _ _ _ _ _ _ hm; exact absurd hm (Nat.not_lt_zero _)
    | succ f9 ih_15 =>
      intro k nd W hk hs h29 hx hn0 hnb hnr hw hm
      refine j_il6 hX dX10_walk_15 ?_
      refine j_al2 hX dX10_walk_17 rfl ?_
      refine j_getI hX hG fl_X10_41 (Or.inl rfl) (by decide) dX10_walk_18 ?_
      refine j_icmp_ge (tgt := 85) hX dX10_walk_21 (by decide) (fun h_21 => ?_) (fun h_21 => ?_)
      · skip
        exact j_ret hR dX10_walk_85 (by have ek : k = V 23 1 := (by have := hs 23 1 (by decide); omega); rw [ek] at hnr hx hw; rw [Int.sub_self] at hnr; exact ⟨⟨nd, ⟨hn0, hnr, hw⟩, hx⟩, h29, hs⟩)
      · skip
        have hkL : k < V 23 1 := by have := hs 23 1 (by decide); omega
        have q15 : ∀ b, W 15 b = V 15 b := fun b => hs 15 b (by decide)
        have q17 : ∀ b, W 17 b = V 17 b := fun b => hs 17 b (by decide)
        have q23 : W 23 1 = V 23 1 := hs 23 1 (by decide)
        have q24 : W 24 = V 24 := funext fun b => hs 24 b (by decide)
        have q6 := q15 6
        have q3 := q15 3
        have roW : RO W 15 := ho9.sm q15
        have hmk := hm9 (k + V 15 4 - 2)
        have q52 : ∀ b, W 52 b = V 52 b := fun b => hs 52 b (by decide)
        have hnm : 0 ≤ nd k * V 15 3 ∧ nd k * V 15 3 ≤ 216 := ⟨Int.mul_nonneg hnb.1 (by omega), by have := Int.mul_le_mul (show nd k ≤ 36 by omega) hb9.1.2 (by omega) (by omega); omega⟩
        have hbit : ∀ b : Nat, b < 64 → (bt 64 (band 64 (V 17 (V 24 ((k + V 15 4 - 2) % V 23 1) * 36 + nd k)) (V 52 (k + 1))) b = true ↔ (∃ e, (0 ≤ e ∧ e < V 15 5) ∧ V 16 e = (labF (V 24) (V 15 4) (V 23 1)) k ∧ e / V 15 3 = nd k ∧ e % V 15 6 = b) ∧ (b : Int) < V 15 6 ∧ rtN (V 16) (labF (V 24) (V 15 4) (V 23 1)) (V 15 3) (V 15 6) (V 15 5) (V 23 1) s (V 23 1 - (k + 1)).toNat b) := fun b hb => by
          rw [bt_and, Bool.and_eq_true, hl _ _ hmk.1 (by omega) hnb.1 (by omega) b hb, hrt (k + 1) (by omega) (by omega) b hb]
          constructor
          · rintro ⟨⟨e, e0, e1, e2, e3, e4⟩, h⟩; exact ⟨⟨e, ⟨e0, e1⟩, e2, e3, e4⟩, h⟩
          · rintro ⟨⟨e, ⟨e0, e1⟩, e2, e3, e4⟩, h⟩; exact ⟨⟨e, e0, e1, e2, e3, e4⟩, h⟩
        have hex := (rt_S hk.1 hkL).mp hnr
        obtain ⟨lb, lb0, lb1, lb2, lb3⟩ : ∃ c : Nat, c < 64 ∧ leastB (band 64 (V 17 (V 24 ((k + V 15 4 - 2) % V 23 1) * 36 + nd k)) (V 52 (k + 1))) = c ∧ bt 64 (band 64 (V 17 (V 24 ((k + V 15 4 - 2) % V 23 1) * 36 + nd k)) (V 52 (k + 1))) c = true ∧ ∀ j : Nat, j < c → bt 64 (band 64 (V 17 (V 24 ((k + V 15 4 - 2) % V 23 1) * 36 + nd k)) (V 52 (k + 1))) j = false := least64 (by
          obtain ⟨e, e0, e2, e3, e4⟩ := hex
          have m := md_b e (n := V 15 6) (by omega)
          exact ⟨(e % V 15 6).toNat, by omega, (hbit _ (by omega)).mpr ⟨⟨e, e0, e2, e3, by omega⟩, by omega, by rw [show (((e % V 15 6).toNat : Nat) : Int) = e % V 15 6 by omega]; exact e4⟩⟩)
        have lbb := (hbit lb lb0).mp lb2
        have l3 : 0 ≤ leastB (band 64 (V 17 (V 24 ((k + V 15 4 - 2) % V 23 1) * 36 + nd k)) (V 52 (k + 1))) ∧ leastB (band 64 (V 17 (V 24 ((k + V 15 4 - 2) % V 23 1) * 36 + nd k)) (V 52 (k + 1))) < V 15 6 := by rw [lb1]; exact ⟨by omega, lbb.2.1⟩
        have l4 : rtN (V 16) (labF (V 24) (V 15 4) (V 23 1)) (V 15 3) (V 15 6) (V 15 5) (V 23 1) s (V 23 1 - (k + 1)).toNat (leastB (band 64 (V 17 (V 24 ((k + V 15 4 - 2) % V 23 1) * 36 + nd k)) (V 52 (k + 1)))) := by rw [lb1]; exact lbb.2.2
        have l5 : ∃ e, (0 ≤ e ∧ e < V 15 5) ∧ V 16 e = (labF (V 24) (V 15 4) (V 23 1)) k ∧ e / V 15 3 = nd k ∧ e % V 15 6 = leastB (band 64 (V 17 (V 24 ((k + V 15 4 - 2) % V 23 1) * 36 + nd k)) (V 52 (k + 1))) := by rw [lb1]; exact lbb.1
        have l6 : ∀ e, (0 ≤ e ∧ e < V 15 5) → V 16 e = (labF (V 24) (V 15 4) (V 23 1)) k → e / V 15 3 = nd k → rtN (V 16) (labF (V 24) (V 15 4) (V 23 1)) (V 15 3) (V 15 6) (V 15 5) (V 23 1) s (V 23 1 - (k + 1)).toNat (e % V 15 6) → leastB (band 64 (V 17 (V 24 ((k + V 15 4 - 2) % V 23 1) * 36 + nd k)) (V 52 (k + 1))) ≤ e % V 15 6 := fun e e0 e2 e3 e4 => by
          have m := md_b e (n := V 15 6) (by omega)
          rw [lb1]
          refine Classical.byContradiction fun q => ?_
          have := lb3 (e % V 15 6).toNat (by omega)
          rw [(hbit _ (by omega)).mpr ⟨⟨e, e0, e2, e3, by omega⟩, by omega, by rw [show (((e % V 15 6).toNat : Nat) : Int) = e % V 15 6 by omega]; exact e4⟩] at this
          cases this
        refine j_al4 hX dX10_walk_24 rfl ?_
        refine j_il6 hX dX10_walk_26 ?_
        refine j_il5 hX dX10_walk_28 ?_
        refine j_al1 hX dX10_walk_30 rfl ?_
        refine j_getI hX hG fl_X10_69 (Or.inl rfl) (by decide) dX10_walk_31 ?_
        refine j_eqS (st' := [vI (V 15 3), vI (nd k), vI k, vA 29]) (by rw [q3]) ?_
        refine j_imul hX dX10_walk_34 (by omega) ?_
        refine j_al1 hX dX10_walk_35 rfl ?_
        refine j_getI hX hG fl_X10_21 (Or.inl rfl) (by decide) dX10_walk_36 ?_
        refine j_eqS (st' := [vI (V 15 6), vI (nd k * V 15 3), vI k, vA 29]) (by rw [q6]) ?_
        refine j_pSI2 hX hG lk_X10_94 (ok_X11_quotient_in hnm.1 (by omega)) (Nat.le_of_ble_eq_true rfl) (Nat.le_of_ble_eq_true rfl) (Nat.le_of_ble_eq_true rfl) rfl dX10_walk_39 ?_
        refine j_cVV2 (ci := 7) hX hG lk_X10_97 (ok_X7_setTo (by decide) (by omega)) (by decide) rfl (Nat.le_of_ble_eq_true rfl) (Nat.le_of_ble_eq_true rfl) (Nat.le_of_ble_eq_true rfl) rfl dX10_walk_42 (fun V_42 h_42 => ?_)
        subst h_42
        dsimp only [Int.reduceAdd]
        have hxZ : ∀ j, 0 ≤ j → j < k + 1 → (up W 30 k (nd k * V 15 3 / V 15 6)) 30 j = nd j * V 15 3 / V 15 6 := lt_stepI (fun j j0 j1 => by rw [up_n _ (by omega)]; exact hx j j0 j1) (up_s ..)
        obtain ⟨Z, hZ⟩ : ∃ Z, Z = up W 30 k (nd k * V 15 3 / V 15 6) := ⟨_, rfl⟩
        have fZ : fr [29, 30] V Z := by rw [hZ]; exact fr_u hs (by decide)
        have z29 : Z 29 1 = V 23 1 := by rw [hZ, up_n _ (by omega)]; exact h29
        rw [← hZ] at hxZ ⊢
        clear hZ
        have z15 : ∀ b, Z 15 b = V 15 b := fun b => fZ 15 b (by decide)
        have z17 : ∀ b, Z 17 b = V 17 b := fun b => fZ 17 b (by decide)
        have z52 : ∀ b, Z 52 b = V 52 b := fun b => fZ 52 b (by decide)
        have z23 : Z 23 1 = V 23 1 := fZ 23 1 (by decide)
        have z24 : Z 24 = V 24 := funext fun b => fZ 24 b (by decide)
        have roZ : RO Z 15 := ho9.sm z15
        try dsimp only [Int.reduceAdd]
        refine j_al1 hX dX10_walk_45 rfl ?_
        refine j_al1 hX dX10_walk_46 rfl ?_
        refine j_al2 hX dX10_walk_47 rfl ?_
        refine j_il6 hX dX10_walk_48 ?_
        refine j_pSI3 hX hG lk_X10_46 (ok_X10_labelOf roZ (Or.inr (Or.inl rfl)) (by decide) (by rw [z23]; exact hn) (by omega)) (Nat.le_of_ble_eq_true rfl) (Nat.le_of_ble_eq_true rfl) (Nat.le_of_ble_eq_true rfl) rfl dX10_walk_50 ?_
        refine j_eqS (st' := [vI (V 24 ((k + V 15 4 - 2) % V 23 1)), vA 15]) (by show [vI (V 24 ((k + V 15 4 - 2) % V 23 1)), vA 15] = [vI (Z 24 ((k + Z 15 4 - 2) % Z 23 1)), vA 15]; rw [z24, z15, z23]) ?_
        refine j_il5 hX dX10_walk_53 ?_
        refine j_pVL2 (ci := 8) hX hG lk_X10_90 (ok_X8_after (Or.inr (Or.inl rfl)) (by omega) (by omega)) (by decide) rfl (Nat.le_of_ble_eq_true rfl) (Nat.le_of_ble_eq_true rfl) (Nat.le_of_ble_eq_true rfl) rfl dX10_walk_55 ?_
        try dsimp only [Int.reduceAdd]
        refine j_eqS (st' := [vL (V 17 (V 24 ((k + V 15 4 - 2) % V 23 1) * 36 + nd k))]) (by rw [z17]) ?_
        refine j_al0 hX dX10_walk_58 rfl ?_
        refine j_getR (q := 52) hX hG fl_X10_18 rfl rfl (by decide) dX10_walk_59 ?_
        refine j_il6 hX dX10_walk_62 ?_
        refine j_iconst hX dX10_walk_64 ⟨by decide, by decide⟩ ?_
        refine j_iadd hX dX10_walk_65 (by omega) ?_
        refine j_pSL2 hX hG lk_X10_54 (ok_X11_bitsAt_in (n := 17) (by decide) (by first | assumption | decide) (by omega)) (Nat.le_of_ble_eq_true rfl) (Nat.le_of_ble_eq_true rfl) (Nat.le_of_ble_eq_true rfl) rfl dX10_walk_66 ?_
        refine j_eqS (st' := [vL (V 52 (k + 1)), vL (V 17 (V 24 ((k + V 15 4 - 2) % V 23 1) * 36 + nd k))]) (by rw [z52]) ?_
        refine j_land hX dX10_walk_69 ?_
        refine j_ls7 hX dX10_walk_70 rfl ?_
        refine j_ll7 hX dX10_walk_72 ?_
        refine j_pSI1 hX hG lk_X10_101 (ok_X11_leastOf ) (Nat.le_of_ble_eq_true rfl) (Nat.le_of_ble_eq_true rfl) (Nat.le_of_ble_eq_true rfl) rfl dX10_walk_74 ?_
        refine j_is5 hX dX10_walk_77 rfl ?_
        refine j_inc6 hX dX10_walk_79 rfl (by omega) ?_
        refine j_goto (tgt := 15) hX dX10_walk_82 (by decide) ?_
        refine j_fg7 ?_
        refine j_eqL (ls' := [vA 49, vA 15, vA 23, vI s, vA 29, vI ((fun j => if j = k + 1 then leastB (band 64 (V 17 (V 24 ((k + V 15 4 - 2) % V 23 1) * 36 + nd k)) (V 52 (k + 1))) else nd j) (k + 1)), vI (k + 1), vU, vU]) (by simp only [↓reduceIte]) ?_
        exact ih_15 (k + 1) (fun j => if j = k + 1 then leastB (band 64 (V 17 (V 24 ((k + V 15 4 - 2) % V 23 1) * 36 + nd k)) (V 52 (k + 1))) else nd j) _ (by omega) fZ z29 (fun j j0 j1 => by rw [hxZ j j0 j1]; show _ = (if j = k + 1 then _ else nd j) * V 15 3 / V 15 6; rw [if_neg (by omega)]) (by show (if (0 : Int) = k + 1 then _ else nd 0) = s; rw [if_neg (by omega)]; exact hn0) (by simp only [↓reduceIte]; exact l3) (by simp only [↓reduceIte]; exact l4) (by exact lt_stepI (fun j j0 j1 => by rw [if_neg (show ¬ j = k + 1 by omega), if_neg (show ¬ j + 1 = k + 1 by omega)]; exact hw j j0 j1) (by rw [if_neg (show ¬ k = k + 1 by omega), if_pos rfl]; exact ⟨l5, l4, l6⟩)) (by omega)
  exact lp_15 _ 0 (fun _ => s) _ (by omega) (fr_u fr_0 (by decide)) (up_s ..) (fun j j0 j1 => by omega) rfl hs9 (by rw [Int.sub_zero]; exact hst) (fun j j0 j1 => by omega) (Nat.lt_succ_self _)
set_option maxHeartbeats 4000000 in
theorem ok_X10_findFirst {V : VV} (ho9 : RO V 15) (ht : TR V 15) (hn : 1 ≤ V 23 1 ∧ V 23 1 ≤ 16) (hQ : ∀ k, 0 ≤ k → k < V 23 1 → 0 ≤ V 24 k ∧ V 24 k < V 15 3) : Ok NC yX10_findFirst cX10_findFirst 5 (some .boolean) 5 114 [vA 49, vA 15, vA 23, vA 29] V (pI (fun x9 V' => ((x9 = 1 ∧ FST (V 16) (V 15 3) (V 15 4) (V 23 1) (V 24) (V' 30) ∧ V' 29 1 = V 23 1) ∨ (x9 = 0 ∧ ∀ x, ¬ SOL (V 16) (V 15 3) (V 15 4) (V 23 1) (V 24) x)) ∧ fr [17, 18, 29, 30, 52] V V')) := by
  refine Ok.intro (by decide +kernel) (Nat.le_of_ble_eq_true rfl) (fun X G hX hG hR hoa hoV => ?_)
  show J X G 0 [vA 49, vA 15, vA 23, vA 29, vU] [] V
  have hb9 := ho9.b
  have hnn := ho9.n
  have htb := ht.b ho9
  have hwN : V 15 4 = 2 ∧ V 15 6 = V 15 3 ∨ V 15 4 = 3 ∧ V 15 6 = V 15 3 * V 15 3 := ho9.2.1
  refine j_al1 hX dX10_findFirst_0 rfl ?_
  refine j_cVV0 (ci := 8) hX hG lk_X10_79 (ok_X8_link (by first | assumption | omega | decide) (by first | assumption | omega | decide)) (by decide) rfl (Nat.le_of_ble_eq_true rfl) (Nat.le_of_ble_eq_true rfl) (Nat.le_of_ble_eq_true rfl) rfl dX10_findFirst_1 (fun V_1 h_1 => ?_)
  obtain ⟨l_1, m_1, s_1⟩ := h_1
  have f_1 : fr [17, 18] V V_1 := fr_s2 s_1
  refine j_iconst hX dX10_findFirst_4 ⟨by decide, by decide⟩ ?_
  refine j_is4 hX dX10_findFirst_5 rfl ?_
  have lp_7 : ∀ (f9 : Nat) (s : Int) (W : VV), (0 ≤ s ∧ s ≤ V 15 6) → (fr [17, 18, 52] V W) → (LK W 17 (V 15 5) (V 16) (fun e => e / V 15 3) (fun e => e % V 15 6)) → (∀ z, 0 ≤ z → z < s → ¬ rtN (V 16) (labF (V 24) (V 15 4) (V 23 1)) (V 15 3) (V 15 6) (V 15 5) (V 23 1) z (V 23 1).toNat z) → ((V 15 6 - s).toNat) < f9 → J X G 7 [vA 49, vA 15, vA 23, vA 29, vI s] [] W := by
    intro f9
    induction f9 with
    | zero => intro s W _ _ _ _ hm; exact absurd hm (Nat.not_lt_zero _)
    | succ f9 ih_7 =>
      intro s W hk hs hlk hN hm
      refine j_il4 hX dX10_findFirst_7 ?_
      refine j_al1 hX dX10_findFirst_9 rfl ?_
      refine j_getI hX hG fl_X10_21 (Or.inl rfl) (by decide) dX10_findFirst_10 ?_
      refine j_icmp_ge (tgt := 59) hX dX10_findFirst_13 (by decide) (fun h_13 => ?_) (fun h_13 => ?_)
      · skip
        refine j_iconst hX dX10_findFirst_59 ⟨by decide, by decide⟩ ?_
        exact j_retZ hR dX10_findFirst_60 (by omega) ⟨Or.inr ⟨rfl, fun x hx => by have h1 := SOL_rt hwN (by omega) hn.1 hnn hx (V 23 1).toNat (by omega); rw [show V 23 1 - (((V 23 1).toNat : Nat) : Int) = 0 by omega] at h1; have h2 := (ed_dm hwN (by omega) hn.1 hx.1 0).2.2.2; exact hN _ h2.1 (by have := hs 15 6 (by decide); omega) h1⟩, fr_w hs (by decide)⟩
      · skip
        have q15 : ∀ b, W 15 b = V 15 b := fun b => hs 15 b (by decide)
        have q16 : W 16 = V 16 := funext fun b => hs 16 b (by decide)
        have q24 : W 24 = V 24 := funext fun b => hs 24 b (by decide)
        have q23 : W 23 1 = V 23 1 := hs 23 1 (by decide)
        have q3 := q15 3
        have q4 := q15 4
        have q5 := q15 5
        have q6 := q15 6
        have roW : RO W 15 := ho9.sm q15
        have trW : TR W 15 := fun e h0 h1 => by rw [show W (15 + 1) e = V (15 + 1) e from congrFun q16 e, q15]; exact ht e h0 (by rw [q15] at h1; exact h1)
        refine j_al0 hX dX10_findFirst_16 rfl ?_
        refine j_al1 hX dX10_findFirst_17 rfl ?_
        refine j_al2 hX dX10_findFirst_18 rfl ?_
        refine j_il4 hX dX10_findFirst_19 ?_
        refine j_cVV3 (ci := 10) hX hG lk_X10_82 (ok_X10_lookBack roW trW (by rw [q23]; exact hn) (by rw [q23, q24, q3]; exact hQ) (by rw [q5, q16, q3, q6]; exact hlk) (by rw [q6]; omega)) (by decide) rfl (Nat.le_of_ble_eq_true rfl) (Nat.le_of_ble_eq_true rfl) (Nat.le_of_ble_eq_true rfl) rfl dX10_findFirst_21 (fun V_21 h_21 => ?_)
        obtain ⟨r_21, f_21⟩ := h_21
        rw [q23, q3, q4, q5, q6, q16, q24] at r_21
        have g_21 : fr [17, 18, 52] V V_21 := fr_t hs (fr_w f_21 (by decide))
        refine j_al0 hX dX10_findFirst_24 rfl ?_
        refine j_getR (q := 52) hX hG fl_X10_18 rfl rfl (by decide) dX10_findFirst_25 ?_
        refine j_iconst hX dX10_findFirst_28 ⟨by decide, by decide⟩ ?_
        refine j_pSL2 hX hG lk_X10_54 (ok_X11_bitsAt_in (n := 17) (by decide) (by first | assumption | decide) (by omega)) (Nat.le_of_ble_eq_true rfl) (Nat.le_of_ble_eq_true rfl) (Nat.le_of_ble_eq_true rfl) rfl dX10_findFirst_29 ?_
        refine j_rngL fun hr9 => ?_
        refine j_il4 hX dX10_findFirst_32 ?_
        refine j_lshr hX dX10_findFirst_34 (by omega) ?_
        refine j_lconst (x := 1) hX dX10_findFirst_35 rfl ⟨by decide, by decide⟩ ?_
        have hbt : band 64 (V_21 52 0 / 2 ^ s.toNat) 1 ≠ 0 ↔ rtN (V 16) (labF (V 24) (V 15 4) (V 23 1)) (V 15 3) (V 15 6) (V 15 5) (V 23 1) s (V 23 1).toNat s := by
          rw [has64 hr9 (by omega)]
          have h1 := r_21 0 (Int.le_refl _) (by omega) s.toNat (by omega)
          rw [show ((s.toNat : Nat) : Int) = s by omega, Int.sub_zero] at h1
          by_cases e : bt 64 (V_21 52 0) s.toNat = true
          · rw [if_pos e]; exact ⟨fun _ => (h1.mp e).2, fun _ => by decide⟩
          · rw [if_neg e]; exact ⟨fun q => absurd rfl q, fun q => absurd (h1.mpr ⟨by omega, q⟩) e⟩
        refine j_land hX dX10_findFirst_36 ?_
        refine j_lconst (x := 0) hX dX10_findFirst_37 rfl ⟨by decide, by decide⟩ ?_
        refine j_lcmp_eq (tgt := 53) hX dX10_findFirst_38 dX10_findFirst_39 (by decide) (fun h_39 => ?_) (fun h_39 => ?_)
        · skip
          refine j_inc4 hX dX10_findFirst_53 rfl (by omega) ?_
          refine j_goto (tgt := 7) hX dX10_findFirst_56 (by decide) ?_
          exact ih_7 _ _ (by omega) g_21 (hlk.sm fun b => f_21 17 b (by decide)) (lt_stepI hN (fun q => hbt.mpr q (by first | exact h_39 | omega))) (by omega)
        · skip
          have hrs : rtN (V 16) (labF (V 24) (V 15 4) (V 23 1)) (V 15 3) (V 15 6) (V 15 5) (V 23 1) s (V 23 1).toNat s := hbt.mp h_39
          have e15 : ∀ b, V_21 15 b = V 15 b := fun b => g_21 15 b (by decide)
          have e16 : V_21 16 = V 16 := funext fun b => g_21 16 b (by decide)
          have e24 : V_21 24 = V 24 := funext fun b => g_21 24 b (by decide)
          have e23 : V_21 23 1 = V 23 1 := g_21 23 1 (by decide)
          have e3 := e15 3
          have e4 := e15 4
          have e5 := e15 5
          have e6 := e15 6
          have roV : RO V_21 15 := ho9.sm e15
          have trV : TR V_21 15 := fun e h0 h1 => by rw [show V_21 (15 + 1) e = V (15 + 1) e from congrFun e16 e, e15]; exact ht e h0 (by rw [e15] at h1; exact h1)
          refine j_al0 hX dX10_findFirst_42 rfl ?_
          refine j_al1 hX dX10_findFirst_43 rfl ?_
          refine j_al2 hX dX10_findFirst_44 rfl ?_
          refine j_il4 hX dX10_findFirst_45 ?_
          refine j_al3 hX dX10_findFirst_47 rfl ?_
          refine j_cVV4 (ci := 10) hX hG lk_X10_86 (ok_X10_walk roV trV (by rw [e23]; exact hn) (by rw [e23, e24, e3]; exact hQ) (by rw [e5, e16, e3, e6]; exact hlk.sm fun b => f_21 17 b (by decide)) (by rw [e6]; omega) (by rw [e23, e3, e4, e5, e6, e16, e24]; exact r_21) (by rw [e23, e3, e4, e5, e6, e16, e24]; exact hrs)) (by decide) rfl (Nat.le_of_ble_eq_true rfl) (Nat.le_of_ble_eq_true rfl) (Nat.le_of_ble_eq_true rfl) rfl dX10_findFirst_48 (fun V_48 h_48 => ?_)
          obtain ⟨⟨nd, w_48, x_48⟩, l_48, f_48⟩ := h_48
          rw [e23, e3, e4, e5, e6, e16, e24] at w_48
          rw [e23, e3, e6] at x_48
          rw [e23] at l_48
          refine j_iconst hX dX10_findFirst_51 ⟨by decide, by decide⟩ ?_
          exact j_retZ hR dX10_findFirst_52 (by omega) ⟨Or.inl ⟨rfl, FST_c (FST_of hwN (by omega) hn.1 hnn w_48 hN) (fun k k0 k1 => (x_48 k k0 k1).symm), l_48⟩, fr_t (fr_w g_21 (by decide)) (fr_w f_48 (by decide))⟩
  exact lp_7 _ _ _ ⟨by decide, by omega⟩ (fr_w f_1 (by decide)) l_1 (fun z z0 z1 => by omega) (Nat.lt_succ_self _)
