theorem bnzb {x y : Int} : band 64 x y ≠ 0 ↔ ∃ b : Nat, b < 64 ∧ bt 64 (band 64 x y) b = true := bnz (x := band 64 x y) (bv64 _)
theorem bS_BC {V W : VV} {T : Int → Int} {g N n : Int} (hl : LK V 17 n T (fun e => e / g) (fun e => e % N)) (hl2 : LK V 18 n T (fun e => e % N) (fun e => e / g)) (ht : ∀ e, 0 ≤ e → e < n → 0 ≤ T e ∧ T e < 6) (hg : 1 ≤ g) (hn : n = N * g) (hN : 1 ≤ N ∧ N ≤ 36)
    (h : ∀ a b, 0 ≤ a → a < N → 0 ≤ b → b < N → bt 64 (W 39 a) b.toNat = true → fwB T (V 17) (W 39) g N a b = true ∧ bwB T (V 18) (W 39) g N a b = true) : BC T g N n (bS (W 39) N) := fun a b ⟨ha, hb, hab⟩ => by
  have h1 := h a b ha.1 ha.2 hb.1 hb.2 hab
  obtain ⟨a1, b1, c1, d1⟩ := (fw_t hl ht hg hn hN ha hb).mp h1.1
  obtain ⟨a2, b2, c2, d2⟩ := (bw_t hl2 ht hg hn hN ha hb).mp h1.2
  have r1 := pst_b hN.1 d1
  have r2 : (0 ≤ a2 ∧ a2 < N) ∧ 0 ≤ b2 ∧ b2 < N := by
    obtain ⟨e, e', k1, k2, -, k3, k4, -⟩ := d2
    rw [← k3, ← k4]
    exact ⟨⟨Int.ediv_nonneg k1.1 (by omega), Int.ediv_lt_of_lt_mul (by omega) (by rw [← hn]; exact k1.2)⟩, Int.ediv_nonneg k2.1 (by omega), Int.ediv_lt_of_lt_mul (by omega) (by rw [← hn]; exact k2.2)⟩
  exact ⟨⟨a1, b1, ⟨r1.1, r1.2, c1⟩, d1⟩, a2, b2, ⟨r2.1, r2.2, c2⟩, d2⟩
set_option maxHeartbeats 4000000 in
theorem ok_X6_keepsRowsApart {V : VV} (ho9 : RO V 15) (ht : TR V 15) (hl : LK V 17 (V 15 5) (V 16) (fun e => e / V 15 3) (fun e => e % V 15 6)) (hl2 : LK V 18 (V 15 5) (V 16) (fun e => e % V 15 6) (fun e => e / V 15 3)) : Ok NC yX6_keepsRowsApart cX6_keepsRowsApart 4 (some .boolean) 4 93 [vA 38, vA 15] V (pI (fun x9 V' => ((x9 = 1 ∧ APT (V 16) (V 15 3) (V 15 6) (V 15 5)) ∨ (x9 = 0 ∧ ¬ APT (V 16) (V 15 3) (V 15 6) (V 15 5))) ∧ fr [39] V V')) := by
  refine Ok.intro (by decide +kernel) (Nat.le_of_ble_eq_true rfl) (fun X G hX hG hR hoa hoV => ?_)
  show J X G 0 [vA 38, vA 15, vU, vU] [] V
  have hb9 := ho9.b
  have h56 := ho9.n
  have htb := ht.b ho9
  refine j_al0 hX dX6_keepsRowsApart_0 rfl ?_
  refine j_getR (q := 39) hX hG fl_X6_9 rfl rfl (by decide) dX6_keepsRowsApart_1 ?_
  refine j_lconst (x := 1) hX dX6_keepsRowsApart_4 rfl ⟨by decide, by decide⟩ ?_
  refine j_al1 hX dX6_keepsRowsApart_5 rfl ?_
  refine j_getI hX hG fl_X6_70 (Or.inl rfl) (by decide) dX6_keepsRowsApart_6 ?_
  refine j_lshl hX dX6_keepsRowsApart_9 (by omega) (p2_62 (by omega)) ?_
  refine j_lconst (x := 1) hX dX6_keepsRowsApart_10 rfl ⟨by decide, by decide⟩ ?_
  refine j_lsub hX dX6_keepsRowsApart_11 (by have := p2_62 (y := V 15 6) (by omega); have := p2pos (V 15 6).toNat; omega) ?_
  refine j_cSV2 hX hG lk_X6_48 (ok_J7_fill_d0a16 (n := 36) (by decide) (by first | assumption | decide)) (Nat.le_of_ble_eq_true rfl) (Nat.le_of_ble_eq_true rfl) (Nat.le_of_ble_eq_true rfl) rfl dX6_keepsRowsApart_12 (fun V_12 h_12 => ?_)
  subst h_12
  have hsF : fr [39] V (fillV V 39 36 (1 * 2 ^ (V 15 6).toNat - 1)) := fr_f fr_0 (by decide)
  refine j_iconst hX dX6_keepsRowsApart_15 ⟨by decide, by decide⟩ ?_
  refine j_is2 hX dX6_keepsRowsApart_16 rfl ?_
  refine j_iconst hX dX6_keepsRowsApart_17 ⟨by decide, by decide⟩ ?_
  refine j_is3 hX dX6_keepsRowsApart_18 rfl ?_
  have lp_19 : ∀ (f9 : Nat) (x s : Int) (W : VV), (0 ≤ s ∧ s ≤ 1297) → (fr [39] V W) → (∀ a, 0 ≤ a → a < 36 → ∀ b : Nat, b < 64 → bt 64 (W 39 a) b = true → (b : Int) < V 15 6) → (∀ B, BC (V 16) (V 15 3) (V 15 6) (V 15 5) B → ∀ a b, B a b → bt 64 (W 39 a) b.toNat = true) → ((x = 1 ∧ cntP W 39 + s ≤ 1296) ∨ (x = 0 ∧ ∀ a b, 0 ≤ a → a < V 15 6 → 0 ≤ b → b < V 15 6 → bt 64 (W 39 a) b.toNat = true → fwB (V 16) (V 17) (W 39) (V 15 3) (V 15 6) a b = true ∧ bwB (V 16) (V 18) (W 39) (V 15 3) (V 15 6) a b = true)) → ((1298 - s).toNat) < f9 → J X G 19 [vA 38, vA 15, vI x, vI s] [] W := by
    intro f9
    induction f9 with
    | zero => intro x s W _ _ _ _ _ hm; exact absurd hm (Nat.not_lt_zero _)
    | succ f9 ih_19 =>
      intro x s W hb hs hli hB hx hm
      have q5 : W 15 5 = V 15 5 := hs 15 5 (by decide)
      have q3 : W 15 3 = V 15 3 := hs 15 3 (by decide)
      have q6 : W 15 6 = V 15 6 := hs 15 6 (by decide)
      have q16 : W 16 = V 16 := funext fun b => hs 16 b (by decide)
      have q17 : W 17 = V 17 := funext fun b => hs 17 b (by decide)
      have q18 : W 18 = V 18 := funext fun b => hs 18 b (by decide)
      have roW : RO W 15 := ho9.sm (fun b => hs 15 b (by decide))
      have trW : TR W 15 := fun e h0 h1 => by rw [show W (15 + 1) e = V (15 + 1) e from hs 16 e (by decide), q3]; exact ht e h0 (by rw [q5] at h1; exact h1)
      refine j_il2 hX dX6_keepsRowsApart_19 ?_
      refine j_if_eq (tgt := 42) hX dX6_keepsRowsApart_20 (by decide) (fun h_20 => ?_) (fun h_20 => ?_)
      · skip
        have hst : ∀ a b, 0 ≤ a → a < V 15 6 → 0 ≤ b → b < V 15 6 → bt 64 (W 39 a) b.toNat = true → fwB (V 16) (V 17) (W 39) (V 15 3) (V 15 6) a b = true ∧ bwB (V 16) (V 18) (W 39) (V 15 3) (V 15 6) a b = true := hx.elim (fun h => by exfalso; have := (cntP_b W 39).1; omega) (fun h => h.2)
        have hBC : BC (V 16) (V 15 3) (V 15 6) (V 15 5) (bS (W 39) (V 15 6)) := bS_BC hl hl2 htb (by omega) h56 (by omega) hst
        refine j_iconst hX dX6_keepsRowsApart_42 ⟨by decide, by decide⟩ ?_
        refine j_is3 hX dX6_keepsRowsApart_43 rfl ?_
        have lp_44 : ∀ (f9 : Nat) (i : Int), (0 ≤ i ∧ i ≤ V 15 6) → (∀ j, 0 ≤ j → j < i → W 39 j = 1 * 2 ^ j.toNat) → ((V 15 6 - i).toNat) < f9 → J X G 44 [vA 38, vA 15, vU, vI i] [] W := by
          intro f9
          induction f9 with
          | zero => intro i _ _ hm; exact absurd hm (Nat.not_lt_zero _)
          | succ f9 ih_44 =>
            intro i hi hj hm
            refine j_il3 hX dX6_keepsRowsApart_44 ?_
            refine j_al1 hX dX6_keepsRowsApart_45 rfl ?_
            refine j_getI hX hG fl_X6_70 (Or.inl rfl) (by decide) dX6_keepsRowsApart_46 ?_
            refine j_icmp_ge (tgt := 75) hX dX6_keepsRowsApart_49 (by decide) (fun h_49 => ?_) (fun h_49 => ?_)
            · skip
              refine j_iconst hX dX6_keepsRowsApart_75 ⟨by decide, by decide⟩ ?_
              exact j_retZ hR dX6_keepsRowsApart_76 (by omega) ⟨Or.inl ⟨rfl, fun B hB9 a b hab => by have hin := BC_b (by omega) hB9 hab; have h1 := hB B hB9 a b hab; rw [hj a hin.1.1 (by omega), bt_pow1 (by omega)] at h1; have := of_decide_eq_true h1; omega⟩, hs⟩
            · skip
              refine j_al0 hX dX6_keepsRowsApart_52 rfl ?_
              refine j_getR (q := 39) hX hG fl_X6_9 rfl rfl (by decide) dX6_keepsRowsApart_53 ?_
              refine j_il3 hX dX6_keepsRowsApart_56 ?_
              refine j_pSL2 hX hG lk_X6_91 (ok_X11_bitsAt_in (n := 36) (by decide) (by first | assumption | decide) (by first | assumption | omega | decide)) (Nat.le_of_ble_eq_true rfl) (Nat.le_of_ble_eq_true rfl) (Nat.le_of_ble_eq_true rfl) rfl dX6_keepsRowsApart_57 ?_
              refine j_rngL fun hrw => ?_
              refine j_lconst (x := 1) hX dX6_keepsRowsApart_60 rfl ⟨by decide, by decide⟩ ?_
              refine j_il3 hX dX6_keepsRowsApart_61 ?_
              refine j_lshl hX dX6_keepsRowsApart_62 (by omega) (p2_62 (by omega)) ?_
              refine j_lcmp_eq (tgt := 69) hX dX6_keepsRowsApart_63 dX6_keepsRowsApart_64 (by decide) (fun h_64 => ?_) (fun h_64 => ?_)
              · skip
                refine j_inc3 hX dX6_keepsRowsApart_69 rfl (by omega) ?_
                refine j_goto (tgt := 44) hX dX6_keepsRowsApart_72 (by decide) ?_
                exact ih_44 _ (by omega) (lt_stepI hj h_64) (by omega)
              · skip
                refine j_iconst hX dX6_keepsRowsApart_67 ⟨by decide, by decide⟩ ?_
                exact j_retZ hR dX6_keepsRowsApart_68 (by omega) ⟨Or.inr ⟨rfl, fun hap => h_64 (ext64 hrw (p2_62 (by omega)) (fun b hb => by rw [bt_pow1 hb]; cases e : bt 64 (W 39 i) b with | true => (have hlt := hli i hi.1 (by omega) b hb e; have := hap _ hBC i b ⟨⟨hi.1, by omega⟩, ⟨by omega, hlt⟩, by simpa using e⟩; exact (decide_eq_true (by omega)).symm) | false => (symm; rw [decide_eq_false_iff_not]; intro q; have := hB _ (BC_d (g := V 15 3) (n := V 15 5) (T := V 16) (by omega) h56 (show 1 ≤ V 15 6 by omega)) i i ⟨rfl, hi.1, by omega⟩; rw [← q, e] at this; cases this)))⟩, hs⟩
        refine j_fg2 ?_
        exact lp_44 _ _ (by omega) (by omega) (Nat.lt_succ_self _)
      · skip
        refine j_il3 hX dX6_keepsRowsApart_23 ?_
        refine j_sipush hX dX6_keepsRowsApart_24 (by decide) ⟨by decide, by decide⟩ ?_
        refine j_icmp_gt (tgt := 42) hX dX6_keepsRowsApart_27 (by decide) (fun h_27 => ?_) (fun h_27 => ?_)
        · skip
          have hst : ∀ a b, 0 ≤ a → a < V 15 6 → 0 ≤ b → b < V 15 6 → bt 64 (W 39 a) b.toNat = true → fwB (V 16) (V 17) (W 39) (V 15 3) (V 15 6) a b = true ∧ bwB (V 16) (V 18) (W 39) (V 15 3) (V 15 6) a b = true := hx.elim (fun h => by exfalso; have := (cntP_b W 39).1; omega) (fun h => h.2)
          have hBC : BC (V 16) (V 15 3) (V 15 6) (V 15 5) (bS (W 39) (V 15 6)) := bS_BC hl hl2 htb (by omega) h56 (by omega) hst
          refine j_iconst hX dX6_keepsRowsApart_42 ⟨by decide, by decide⟩ ?_
          refine j_is3 hX dX6_keepsRowsApart_43 rfl ?_
          have lp_44 : ∀ (f9 : Nat) (i : Int), (0 ≤ i ∧ i ≤ V 15 6) → (∀ j, 0 ≤ j → j < i → W 39 j = 1 * 2 ^ j.toNat) → ((V 15 6 - i).toNat) < f9 → J X G 44 [vA 38, vA 15, vU, vI i] [] W := by
            intro f9
            induction f9 with
            | zero => intro i _ _ hm; exact absurd hm (Nat.not_lt_zero _)
            | succ f9 ih_44 =>
              intro i hi hj hm
              refine j_il3 hX dX6_keepsRowsApart_44 ?_
              refine j_al1 hX dX6_keepsRowsApart_45 rfl ?_
              refine j_getI hX hG fl_X6_70 (Or.inl rfl) (by decide) dX6_keepsRowsApart_46 ?_
              refine j_icmp_ge (tgt := 75) hX dX6_keepsRowsApart_49 (by decide) (fun h_49 => ?_) (fun h_49 => ?_)
              · skip
                refine j_iconst hX dX6_keepsRowsApart_75 ⟨by decide, by decide⟩ ?_
                exact j_retZ hR dX6_keepsRowsApart_76 (by omega) ⟨Or.inl ⟨rfl, fun B hB9 a b hab => by have hin := BC_b (by omega) hB9 hab; have h1 := hB B hB9 a b hab; rw [hj a hin.1.1 (by omega), bt_pow1 (by omega)] at h1; have := of_decide_eq_true h1; omega⟩, hs⟩
              · skip
                refine j_al0 hX dX6_keepsRowsApart_52 rfl ?_
                refine j_getR (q := 39) hX hG fl_X6_9 rfl rfl (by decide) dX6_keepsRowsApart_53 ?_
                refine j_il3 hX dX6_keepsRowsApart_56 ?_
                refine j_pSL2 hX hG lk_X6_91 (ok_X11_bitsAt_in (n := 36) (by decide) (by first | assumption | decide) (by first | assumption | omega | decide)) (Nat.le_of_ble_eq_true rfl) (Nat.le_of_ble_eq_true rfl) (Nat.le_of_ble_eq_true rfl) rfl dX6_keepsRowsApart_57 ?_
                refine j_rngL fun hrw => ?_
                refine j_lconst (x := 1) hX dX6_keepsRowsApart_60 rfl ⟨by decide, by decide⟩ ?_
                refine j_il3 hX dX6_keepsRowsApart_61 ?_
                refine j_lshl hX dX6_keepsRowsApart_62 (by omega) (p2_62 (by omega)) ?_
                refine j_lcmp_eq (tgt := 69) hX dX6_keepsRowsApart_63 dX6_keepsRowsApart_64 (by decide) (fun h_64 => ?_) (fun h_64 => ?_)
                · skip
                  refine j_inc3 hX dX6_keepsRowsApart_69 rfl (by omega) ?_
                  refine j_goto (tgt := 44) hX dX6_keepsRowsApart_72 (by decide) ?_
                  exact ih_44 _ (by omega) (lt_stepI hj h_64) (by omega)
                · skip
                  refine j_iconst hX dX6_keepsRowsApart_67 ⟨by decide, by decide⟩ ?_
                  exact j_retZ hR dX6_keepsRowsApart_68 (by omega) ⟨Or.inr ⟨rfl, fun hap => h_64 (ext64 hrw (p2_62 (by omega)) (fun b hb => by rw [bt_pow1 hb]; cases e : bt 64 (W 39 i) b with | true => (have hlt := hli i hi.1 (by omega) b hb e; have := hap _ hBC i b ⟨⟨hi.1, by omega⟩, ⟨by omega, hlt⟩, by simpa using e⟩; exact (decide_eq_true (by omega)).symm) | false => (symm; rw [decide_eq_false_iff_not]; intro q; have := hB _ (BC_d (g := V 15 3) (n := V 15 5) (T := V 16) (by omega) h56 (show 1 ≤ V 15 6 by omega)) i i ⟨rfl, hi.1, by omega⟩; rw [← q, e] at this; cases this)))⟩, hs⟩
          refine j_fg2 ?_
          exact lp_44 _ _ (by omega) (by omega) (Nat.lt_succ_self _)
        · skip
          have hlW : LK W 17 (W 15 5) (W 16) (fun e => e / W 15 3) (fun e => e % W 15 6) := by rw [q5, q16, q3, q6]; exact hl.sm (fun b => hs 17 b (by decide))
          have hl2W : LK W 18 (W 15 5) (W 16) (fun e => e % W 15 6) (fun e => e / W 15 3) := by rw [q5, q16, q3, q6]; exact hl2.sm (fun b => hs 18 b (by decide))
          have hB9 := hB
          refine j_al0 hX dX6_keepsRowsApart_30 rfl ?_
          refine j_al1 hX dX6_keepsRowsApart_31 rfl ?_
          refine j_cVI1 (ci := 6) hX hG lk_X6_105 (ok_X6_dropDeadEnds (by first | assumption | omega | decide) (by first | assumption | omega | decide) (by first | assumption | omega | decide) (by first | assumption | omega | decide)) (by decide) rfl (Nat.le_of_ble_eq_true rfl) (Nat.le_of_ble_eq_true rfl) (Nat.le_of_ble_eq_true rfl) rfl dX6_keepsRowsApart_32 (fun x_32 V_32 h_32 => ?_)
          obtain ⟨f_32, sub_32, bin_32, d_32⟩ := h_32
          rw [q16, q3, q6, q5] at bin_32
          rw [q16, q17, q18, q3, q6] at d_32
          refine j_is2 hX dX6_keepsRowsApart_35 rfl ?_
          refine j_inc3 hX dX6_keepsRowsApart_36 rfl (by omega) ?_
          refine j_goto (tgt := 19) hX dX6_keepsRowsApart_39 (by decide) ?_
          exact ih_19 _ _ _ (by omega) (fr_t hs f_32) (fun a h0 h1 b hb h => hli a h0 h1 b hb (sub_32 a h0 h1 b hb h)) (fun B hB a b hab => bin_32 B hB (fun a b h => hB9 B hB a b h) a b hab) (by rcases d_32 with ⟨e1, e2, e3⟩ | ⟨e1, e2⟩; (exact Or.inr ⟨e1, fun a b h0 h1 h3 h4 h5 => by rw [e2] at h5 ⊢; exact e3 a b h0 h1 h3 h4 trivial h5⟩); (exact Or.inl ⟨e1, by rcases hx with h | h; omega; exact absurd h.1 h_20⟩)) (by omega)
  exact lp_19 _ _ _ _ ⟨by decide, by decide⟩ hsF (fun a h0 h1 b hb h => by rw [fill_in _ h0 h1, bt_full (by omega) hb] at h; have := of_decide_eq_true h; omega) (fun B hB a b hab => by have hin := BC_b (by omega) hB hab; rw [fill_in _ hin.1.1 (by omega), bt_full (by omega) (by omega)]; exact decide_eq_true (by omega)) (Or.inl ⟨rfl, by have := (cntP_b (fillV V 39 36 (1 * 2 ^ (V 15 6).toNat - 1)) 39).2; omega⟩) (Nat.lt_succ_self _)
set_option maxHeartbeats 4000000 in
theorem ok_X6_lengthOfDiamond {V : VV} (ho9 : RO V 15) (ht : TR V 15) (hl : LK V 17 (V 15 5) (V 16) (fun e => e / V 15 3) (fun e => e % V 15 6)) : Ok NC yX6_lengthOfDiamond cX6_lengthOfDiamond 3 (some .int) 4 95 [vA 38, vA 15] V (pI (fun x9 V' => DI (V 16) (V 15 3) (V 15 6) (V 15 5) x9 ∧ fr [39, 40, 41] V V')) := by
  refine Ok.intro (by decide +kernel) (Nat.le_of_ble_eq_true rfl) (fun X G hX hG hR hoa hoV => ?_)
  show J X G 0 [vA 38, vA 15, vU] [] V
  have hb9 := ho9.b
  have h56 := ho9.n
  have htb := ht.b ho9
  refine j_al0 hX dX6_lengthOfDiamond_0 rfl ?_
  refine j_getR (q := 39) hX hG fl_X6_9 rfl rfl (by decide) dX6_lengthOfDiamond_1 ?_
  refine j_lconst (x := 0) hX dX6_lengthOfDiamond_4 rfl ⟨by decide, by decide⟩ ?_
  refine j_cSV2 hX hG lk_X6_48 (ok_J7_fill_d0a16 (n := 36) (by decide) (by first | assumption | decide)) (Nat.le_of_ble_eq_true rfl) (Nat.le_of_ble_eq_true rfl) (Nat.le_of_ble_eq_true rfl) rfl dX6_lengthOfDiamond_5 (fun V_5 h_5 => ?_)
  subst h_5
  refine j_al0 hX dX6_lengthOfDiamond_8 rfl ?_
  refine j_al1 hX dX6_lengthOfDiamond_9 rfl ?_
  refine j_cVV1 (ci := 6) hX hG lk_X6_54 (ok_X6_leaveEqualNodes (by first | assumption | omega | decide) (by first | assumption | omega | decide) (by first | assumption | omega | decide)) (by decide) rfl (Nat.le_of_ble_eq_true rfl) (Nat.le_of_ble_eq_true rfl) (Nat.le_of_ble_eq_true rfl) rfl dX6_lengthOfDiamond_10 (fun V_10 h_10 => ?_)
  obtain ⟨rb_10, f_10⟩ := h_10
  refine j_iconst hX dX6_lengthOfDiamond_13 ⟨by decide, by decide⟩ ?_
  refine j_is2 hX dX6_lengthOfDiamond_14 rfl ?_
  have lp_15 : ∀ (f9 : Nat) (i : Int) (W : VV), (1 ≤ i ∧ i ≤ 1298) → (fr [39, 40, 41] V W) → (∀ a, 0 ≤ a → a < 36 → ∀ b : Nat, b < 64 → bt 64 (W 41 a) b = true → pWk (V 16) (V 15 3) (V 15 6) (V 15 5) (i - 1).toNat a b) → (∀ a b, pWk (V 16) (V 15 3) (V 15 6) (V 15 5) (i - 1).toNat a b → bt 64 (W 41 a) b.toNat = true ∨ ∃ j, j < (i - 1).toNat ∧ pWk (V 16) (V 15 3) (V 15 6) (V 15 5) j a b) → (RB W 39 36 (fun a b => ∃ j, j < (i - 1).toNat ∧ pWk (V 16) (V 15 3) (V 15 6) (V 15 5) j a b)) → (∀ j, j < (i - 1).toNat → ∀ a, ¬ pWk (V 16) (V 15 3) (V 15 6) (V 15 5) j a a) → (i - 1 ≤ cntP W 39) → ((1299 - i).toNat) < f9 → J X G 15 [vA 38, vA 15, vI i] [] W := by
    intro f9
    induction f9 with
    | zero => intro i W _ _ _ _ _ _ _ hm; exact absurd hm (Nat.not_lt_zero _)
    | succ f9 ih_15 =>
      intro i W hi hs a1 a2 a3 a4 a5 hm
      refine j_il2 hX dX6_lengthOfDiamond_15 ?_
      refine j_sipush hX dX6_lengthOfDiamond_16 (by decide) ⟨by decide, by decide⟩ ?_
      refine j_icmp_gt (tgt := 53) hX dX6_lengthOfDiamond_19 (by decide) (fun h_19 => ?_) (fun h_19 => ?_)
      · skip
        exfalso; have := (cntP_b W 39).2; omega
      · skip
        have q5 : W 15 5 = V 15 5 := hs 15 5 (by decide)
        have q3 : W 15 3 = V 15 3 := hs 15 3 (by decide)
        have q6 : W 15 6 = V 15 6 := hs 15 6 (by decide)
        have q16 : W 16 = V 16 := funext fun b => hs 16 b (by decide)
        have q17 : W 17 = V 17 := funext fun b => hs 17 b (by decide)
        have q18 : W 18 = V 18 := funext fun b => hs 18 b (by decide)
        have roW : RO W 15 := ho9.sm (fun b => hs 15 b (by decide))
        have q41 : True := trivial
        have trW : TR W 15 := fun e h0 h1 => by rw [show W (15 + 1) e = V (15 + 1) e from hs 16 e (by decide), q3]; exact ht e h0 (by rw [q5] at h1; exact h1)
        have hlW : LK W 17 (W 15 5) (W 16) (fun e => e / W 15 3) (fun e => e % W 15 6) := by rw [q5, q16, q3, q6]; exact hl.sm (fun b => hs 17 b (by decide))
        have hK : (i + 1 - 1).toNat = (i - 1).toNat + 1 := by omega
        refine j_al0 hX dX6_lengthOfDiamond_22 rfl ?_
        refine j_al1 hX dX6_lengthOfDiamond_23 rfl ?_
        refine j_pVI1 (ci := 6) hX hG lk_X6_58 (ok_X6_hasEqualNodes roW) (by decide) rfl (Nat.le_of_ble_eq_true rfl) (Nat.le_of_ble_eq_true rfl) (Nat.le_of_ble_eq_true rfl) rfl dX6_lengthOfDiamond_24 ?_
        refine j_ifz_eq (tgt := 32) hX dX6_lengthOfDiamond_27 (by decide) (fun h_27 => ?_) (fun h_27 => ?_)
        · skip
          rw [q6] at h_27
          have hneq : ∀ a, ¬ pWk (V 16) (V 15 3) (V 15 6) (V 15 5) (i - 1).toNat a a := fun a h => (a2 a a h).elim (fun hb => h_27 (anyR_t.mpr ⟨a, (pWk_b (by omega) _ h).1.1, (pWk_b (by omega) _ h).1.2, hb⟩)) (fun ⟨j, hj, h2⟩ => a4 j hj a h2)
          refine j_al0 hX dX6_lengthOfDiamond_32 rfl ?_
          refine j_al1 hX dX6_lengthOfDiamond_33 rfl ?_
          refine j_cVI1 (ci := 6) hX hG lk_X6_61 (ok_X6_hasFresh roW) (by decide) rfl (Nat.le_of_ble_eq_true rfl) (Nat.le_of_ble_eq_true rfl) (Nat.le_of_ble_eq_true rfl) rfl dX6_lengthOfDiamond_34 (fun x_34 V_34 h_34 => ?_)
          obtain ⟨x_34e, hr_34, hn_34, f_34⟩ := h_34
          rw [q6] at hr_34 hn_34 x_34e
          refine j_if_ne (tgt := 42) hX dX6_lengthOfDiamond_37 (by decide) (fun h_37 => ?_) (fun h_37 => ?_)
          · skip
            have p5 : V_34 15 5 = V 15 5 := (f_34 15 5 (by decide)).trans q5
            have p3 : V_34 15 3 = V 15 3 := (f_34 15 3 (by decide)).trans q3
            have p6 : V_34 15 6 = V 15 6 := (f_34 15 6 (by decide)).trans q6
            have p16 : V_34 16 = V 16 := funext fun b => (f_34 16 b (by decide)).trans (hs 16 b (by decide))
            have ro34 : RO V_34 15 := roW.sm (fun b => f_34 15 b (by decide))
            have tr34 : TR V_34 15 := fun e h0 h1 => by rw [show V_34 (15 + 1) e = V (15 + 1) e from congrFun p16 e, p3]; exact ht e h0 (by rw [p5] at h1; exact h1)
            have hl34 : LK V_34 17 (V_34 15 5) (V_34 16) (fun e => e / V_34 15 3) (fun e => e % V_34 15 6) := by rw [p5, p16, p3, p6]; exact hl.sm (fun b => (f_34 17 b (by decide)).trans (hs 17 b (by decide)))
            have hfb : ∀ a b, 0 ≤ a → a < V 15 6 → ∀ c : Nat, c < 64 → b = (c : Int) → (bt 64 (V_34 40 a) c = true ↔ bt 64 (W 41 a) c = true ∧ ¬ bt 64 (W 39 a) c = true) := fun a b h0 h1 c hc _ => by rw [(hr_34 a h0 h1).1, bt_and, bt_m1x hc, Bool.and_eq_true, Bool.not_eq_true', Bool.not_eq_true]
            have hfr : ∀ a b, 0 ≤ a ∧ a < V 15 6 → 0 ≤ b ∧ b < V 15 6 → bt 64 (V_34 40 a) b.toNat = true → pWk (V 16) (V 15 3) (V 15 6) (V 15 5) (i - 1).toNat a b ∧ ¬ ∃ j, j < (i - 1).toNat ∧ pWk (V 16) (V 15 3) (V 15 6) (V 15 5) j a b := fun a b ha hb h => by
              have h1 := (hfb a b ha.1 ha.2 b.toNat (by omega) (by omega)).mp h
              have h2 := a1 a ha.1 (by omega) b.toNat (by omega) h1.1
              rw [show ((b.toNat : Nat) : Int) = b by omega] at h2
              refine ⟨h2, fun hj => h1.2 ?_⟩
              rw [a3 a ha.1 (by omega) _ (by omega), show ((b.toNat : Nat) : Int) = b by omega]
              exact hj
            have hfr2 : ∀ a b, pWk (V 16) (V 15 3) (V 15 6) (V 15 5) (i - 1).toNat a b → (¬ ∃ j, j < (i - 1).toNat ∧ pWk (V 16) (V 15 3) (V 15 6) (V 15 5) j a b) → bt 64 (V_34 40 a) b.toNat = true := fun a b h hn => by
              have hin := pWk_b (by omega) _ h
              refine (hfb a b hin.1.1 hin.1.2 b.toNat (by omega) (by omega)).mpr ⟨(a2 a b h).elim id (fun q => absurd q hn), fun q => hn ?_⟩
              have := (a3 a hin.1.1 (by omega) _ (by omega)).mp q
              rwa [show ((b.toNat : Nat) : Int) = b by omega] at this
            have hse : RB V_34 39 36 (fun a b => ∃ j, j < (i - 1).toNat + 1 ∧ pWk (V 16) (V 15 3) (V 15 6) (V 15 5) j a b) := fun a h0 h1 b hb => by
              by_cases hN : a < V 15 6
              · rw [(hr_34 a h0 hN).2, bt_or, bt_and, bt_m1x hb, Bool.or_eq_true, Bool.and_eq_true, a3 a h0 h1 b hb]
                constructor
                · rintro (⟨j, hj, h⟩ | ⟨h, -⟩)
                  · exact ⟨j, by omega, h⟩
                  · exact ⟨_, Nat.lt_succ_self _, a1 a h0 h1 b hb h⟩
                · rintro ⟨j, hj, h⟩
                  by_cases e : ∃ j, j < (i - 1).toNat ∧ pWk (V 16) (V 15 3) (V 15 6) (V 15 5) j a b
                  · exact Or.inl e
                  · have ej : j = (i - 1).toNat := Classical.byContradiction fun q => e ⟨j, by omega, h⟩
                    subst ej
                    have h2 := (a2 a b h).elim id (fun q => absurd q e)
                    refine Or.inr ⟨by simpa using h2, ?_⟩
                    cases e9 : bt 64 (W 39 a) b with
                    | false => rfl
                    | true => exact absurd ((a3 a h0 h1 b hb).mp e9) e
              · rw [hn_34 a (by omega), a3 a h0 h1 b hb]
                constructor
                · rintro ⟨j, hj, h⟩; exact ⟨j, by omega, h⟩
                · rintro ⟨j, hj, h⟩; exact absurd (pWk_b (by omega) _ h).1.2 hN
            have hcnt : cntP W 39 + 1 ≤ cntP V_34 39 := by
              by_cases z : anyR (V 15 6) (fun a => band 64 (W 41 a) (bxor 64 (W 39 a) (-1)) != 0) = true
              · obtain ⟨a, h0, h1, h2⟩ := anyR_t.mp z
                obtain ⟨b, hb, h3⟩ := bnzb.mp (bne_iff_ne.mp h2)
                rw [← (hr_34 a h0 h1).1] at h3
                have h4 := (hfb a b h0 h1 b hb rfl).mp h3
                have h5 := (pWk_b (by omega) _ (a1 a h0 (by omega) b hb h4.1)).2
                refine cntP_lt (fun x hx0 hx1 y hy hq => ?_) h0 (by omega) (b := b) (by omega) (by simpa using h4.2) ((hse a h0 (by omega) b hb).mpr ⟨_, Nat.lt_succ_self _, a1 a h0 (by omega) b hb h4.1⟩)
                obtain ⟨j, hj, h6⟩ := (a3 x hx0 hx1 y (by omega)).mp hq
                exact (hse x hx0 hx1 y (by omega)).mpr ⟨j, by omega, h6⟩
              · rw [if_neg z] at x_34e
                exact absurd x_34e h_37
            refine j_al0 hX dX6_lengthOfDiamond_42 rfl ?_
            refine j_al1 hX dX6_lengthOfDiamond_43 rfl ?_
            refine j_cVV1 (ci := 6) hX hG lk_X6_64 (ok_X6_goOn (by first | assumption | omega | decide) (by first | assumption | omega | decide) (by first | assumption | omega | decide)) (by decide) rfl (Nat.le_of_ble_eq_true rfl) (Nat.le_of_ble_eq_true rfl) (Nat.le_of_ble_eq_true rfl) rfl dX6_lengthOfDiamond_44 (fun V_44 h_44 => ?_)
            obtain ⟨rb_44, f_44⟩ := h_44
            simp only [p3, p5, p6, p16] at rb_44
            refine j_inc2 hX dX6_lengthOfDiamond_47 rfl (by omega) ?_
            refine j_goto (tgt := 15) hX dX6_lengthOfDiamond_50 (by decide) ?_
            exact ih_15 _ _ (by omega) (fr_t hs (fr_t (fr_w f_34 (by decide)) (fr_w f_44 (by decide)))) (fun a h0 h1 b hb h => by obtain ⟨c, d, hc, hd, h5, h6⟩ := (rb_44 a h0 h1 b hb).mp h; rw [hK]; refine ⟨c, d, ?_, h6⟩; have h7 := hfr c d hc hd h5; exact h7.1) (fun a b h => by rw [hK] at h; obtain ⟨c, d, h5, h6⟩ := h; have hin := pWk_b (by omega) _ h5; have hin2 := pst_b (by omega) h6; rw [hK]; by_cases hc : ∃ j, j < (i - 1).toNat ∧ pWk (V 16) (V 15 3) (V 15 6) (V 15 5) j c d; (obtain ⟨j, hj, h7⟩ := hc; exact Or.inr ⟨j + 1, by omega, c, d, h7, h6⟩); left; rw [rb_44 a hin2.1.1 (by omega) _ (by omega), show ((b.toNat : Nat) : Int) = b by omega]; exact ⟨c, d, hin.1, hin.2, hfr2 c d h5 hc, h6⟩) (fun a h0 h1 b hb => by rw [f_44 39 a (by decide), hse a h0 h1 b hb, hK]) (fun j hj a h => by rw [hK] at hj; by_cases e : j = (i - 1).toNat; (rw [e] at h; exact hneq a h); exact a4 j (by omega) a h) (by have hce : cntP V_44 39 = cntP V_34 39 := (by unfold cntP; congr 1; funext p; rw [f_44 39 _ (by decide)]); omega) (by omega)
          · skip
            refine j_iconst hX dX6_lengthOfDiamond_40 ⟨by decide, by decide⟩ ?_
            exact j_retI hR dX6_lengthOfDiamond_41 ⟨Or.inl ⟨rfl, by
      have hno : ∀ a b, pWk (V 16) (V 15 3) (V 15 6) (V 15 5) (i - 1).toNat a b → ∃ j, j < (i - 1).toNat ∧ pWk (V 16) (V 15 3) (V 15 6) (V 15 5) j a b := fun a b h => by
        by_cases e : ∃ j, j < (i - 1).toNat ∧ pWk (V 16) (V 15 3) (V 15 6) (V 15 5) j a b
        · exact e
        · exfalso
          have hin := pWk_b (by omega) _ h
          have h2 := (a2 a b h).elim id (fun q => absurd q e)
          have h3 : ¬ bt 64 (W 39 a) b.toNat = true := fun q => e (by have := (a3 a hin.1.1 (by omega) _ (by omega)).mp q; rwa [show ((b.toNat : Nat) : Int) = b by omega] at this)
          have z : anyR (V 15 6) (fun a => band 64 (W 41 a) (bxor 64 (W 39 a) (-1)) != 0) = true := (anyR_t (n := V 15 6) (p := fun a => band 64 (W 41 a) (bxor 64 (W 39 a) (-1)) != 0)).mpr ⟨a, hin.1.1, hin.1.2, bne_iff_ne.mpr (bnzb.mpr ⟨b.toNat, by omega, by rw [bt_and, bt_m1x (by omega), h2]; simpa using h3⟩)⟩
          rw [if_pos z] at x_34e
          omega
      intro k a h
      obtain ⟨j, hj, h2⟩ := pWk_end hno k a a h
      exact a4 j hj a h2⟩, fr_t hs (fr_w f_34 (by decide))⟩
        · skip
          rw [q6] at h_27
          refine j_il2 hX dX6_lengthOfDiamond_30 ?_
          exact j_retI hR dX6_lengthOfDiamond_31 ⟨Or.inr ⟨(i - 1).toNat, by omega, (anyR_t.mp h_27).elim (fun a h => ⟨a, by have := a1 a h.1 (by omega) a.toNat (by omega) h.2.2; rwa [show ((a.toNat : Nat) : Int) = a by omega] at this⟩), a4⟩, hs⟩
  exact lp_15 _ _ _ ⟨by decide, by decide⟩ (fr_t (fr_f fr_0 (by decide)) (fr_w f_10 (by decide))) (fun a h0 h1 b hb h => (rb_10 a h0 h1 b hb).mp h) (fun a b h => by have hin := pWk_b (by omega) _ h; left; rw [rb_10 a hin.1.1 (by omega) _ (by omega), show ((b.toNat : Nat) : Int) = b by omega]; exact h) (fun a h0 h1 b hb => by rw [f_10 39 a (by decide), fill_in _ h0 h1, bt_0]; constructor; (intro z; cases z); (rintro ⟨j, h, -⟩; exact absurd h (Nat.not_lt_zero _))) (fun j h => absurd h (Nat.not_lt_zero _)) (cntP_b V_10 39).1 (Nat.lt_succ_self _)
set_option maxHeartbeats 4000000 in
theorem ok_X6_prepare {V : VV} (ho9 : RO V 15) (ht : TR V 15) (hpk : V 38 3 = V 15 7 → DI (V 16) (V 15 3) (V 15 6) (V 15 5) (V 38 4) ∧ ((V 38 5 = 1 ∧ V 38 4 = 0 ∧ APT (V 16) (V 15 3) (V 15 6) (V 15 5)) ∨ (V 38 5 = 0 ∧ ¬ (V 38 4 = 0 ∧ APT (V 16) (V 15 3) (V 15 6) (V 15 5))))) : Ok NC yX6_prepare cX6_prepare 2 none 5 117 [vA 38, vA 15] V (pV (fun V' => V' 38 3 = V 15 7 ∧ DI (V 16) (V 15 3) (V 15 6) (V 15 5) (V' 38 4) ∧ ((V' 38 5 = 1 ∧ V' 38 4 = 0 ∧ APT (V 16) (V 15 3) (V 15 6) (V 15 5)) ∨ (V' 38 5 = 0 ∧ ¬ (V' 38 4 = 0 ∧ APT (V 16) (V 15 3) (V 15 6) (V 15 5)))) ∧ fr [17, 18, 38, 39, 40, 41] V V')) := by
  refine Ok.intro (by decide +kernel) (Nat.le_of_ble_eq_true rfl) (fun X G hX hG hR hoa hoV => ?_)
  show J X G 0 [vA 38, vA 15] [] V
  have hb9 := ho9.b
  have hfU : fr [38] V (up V 38 3 (V 15 7)) := fr_u fr_0 (by decide)
  refine j_al0 hX dX6_prepare_0 rfl ?_
  refine j_getI hX hG fl_X6_21 (Or.inl rfl) (by decide) dX6_prepare_1 ?_
  refine j_al1 hX dX6_prepare_4 rfl ?_
  refine j_getI hX hG fl_X6_25 (Or.inl rfl) (by decide) dX6_prepare_5 ?_
  refine j_icmp_ne (tgt := 12) hX dX6_prepare_8 (by decide) (fun h_8 => ?_) (fun h_8 => ?_)
  · skip
    refine j_al0 hX dX6_prepare_12 rfl ?_
    refine j_al1 hX dX6_prepare_13 rfl ?_
    refine j_getI hX hG fl_X6_25 (Or.inl rfl) (by decide) dX6_prepare_14 ?_
    refine j_putI hX hG fp_X6_21 rfl (by decide) dX6_prepare_17 ?_
    refine j_al1 hX dX6_prepare_20 rfl ?_
    refine j_cVV0 (ci := 8) hX hG lk_X6_30 (ok_X8_link (ho9.sm (fun b => hfU 15 b (by decide))) (fun e h0 h1 => by rw [show (up V 38 3 (V 15 7)) (15 + 1) e = V (15 + 1) e from hfU 16 e (by decide), hfU 15 3 (by decide)]; exact ht e h0 (by rw [hfU 15 5 (by decide)] at h1; exact h1))) (by decide) rfl (Nat.le_of_ble_eq_true rfl) (Nat.le_of_ble_eq_true rfl) (Nat.le_of_ble_eq_true rfl) rfl dX6_prepare_21 (fun V_21 h_21 => ?_)
    obtain ⟨lk1, lk2, f0_21⟩ := h_21
    have f_21 := fr_s2 f0_21
    have p5 : V_21 15 5 = V 15 5 := (f_21 15 5 (by decide)).trans (hfU 15 5 (by decide))
    have p3 : V_21 15 3 = V 15 3 := (f_21 15 3 (by decide)).trans (hfU 15 3 (by decide))
    have p6 : V_21 15 6 = V 15 6 := (f_21 15 6 (by decide)).trans (hfU 15 6 (by decide))
    have p16 : V_21 16 = V 16 := funext fun b => (f_21 16 b (by decide)).trans (hfU 16 b (by decide))
    have ro21 : RO V_21 15 := ho9.sm (fun b => (f_21 15 b (by decide)).trans (hfU 15 b (by decide)))
    have tr21 : TR V_21 15 := fun e h0 h1 => by rw [show V_21 (15 + 1) e = V (15 + 1) e from congrFun p16 e, p3]; exact ht e h0 (by rw [p5] at h1; exact h1)
    have hu16 : (up V 38 3 (V 15 7)) 16 = V 16 := funext fun b => hfU 16 b (by decide)
    rw [hu16, hfU 15 5 (by decide), hfU 15 3 (by decide), hfU 15 6 (by decide)] at lk1 lk2
    have l1 : LK V_21 17 (V_21 15 5) (V_21 16) (fun e => e / V_21 15 3) (fun e => e % V_21 15 6) := by rw [p5, p16, p3, p6]; exact lk1
    have l2 : LK V_21 18 (V_21 15 5) (V_21 16) (fun e => e % V_21 15 6) (fun e => e / V_21 15 3) := by rw [p5, p16, p3, p6]; exact lk2
    refine j_al0 hX dX6_prepare_24 rfl ?_
    refine j_al0 hX dX6_prepare_25 rfl ?_
    refine j_al1 hX dX6_prepare_26 rfl ?_
    refine j_cVI1 (ci := 6) hX hG lk_X6_33 (ok_X6_lengthOfDiamond (by first | assumption | omega | decide) (by first | assumption | omega | decide) (by first | assumption | omega | decide)) (by decide) rfl (Nat.le_of_ble_eq_true rfl) (Nat.le_of_ble_eq_true rfl) (Nat.le_of_ble_eq_true rfl) rfl dX6_prepare_27 (fun x_27 V_27 h_27 => ?_)
    obtain ⟨di_27, f_27⟩ := h_27
    rw [p16, p3, p6, p5] at di_27
    refine j_putI hX hG fp_X6_37 rfl (by decide) dX6_prepare_30 ?_
    refine j_al0 hX dX6_prepare_33 rfl ?_
    refine j_al0 hX dX6_prepare_34 rfl ?_
    refine j_getI hX hG fl_X6_37 (Or.inl rfl) (by decide) dX6_prepare_35 ?_
    refine j_if_ne (tgt := 53) hX dX6_prepare_38 (by decide) (fun h_38 => ?_) (fun h_38 => ?_)
    · skip
      try rw [up_s] at h_38
      refine j_iconst hX dX6_prepare_53 ⟨by decide, by decide⟩ ?_
      refine j_putZ hX hG fp_X6_44 rfl (by omega) (by decide) dX6_prepare_54 ?_
      exact j_ret hR dX6_prepare_57 (by have e3 : V_27 38 3 = V 15 7 := (by rw [f_27 38 3 (by decide), f_21 38 3 (by decide), up_s]); first | (have e43 : V_43 38 3 = V 15 7 := (by rw [f_43 38 3 (by decide), up_n _ (by decide)]; exact e3); have e44 : V_43 38 4 = x_27 := (by rw [f_43 38 4 (by decide), up_s]); exact ⟨by rw [up_n _ (by decide)]; exact e43, by rw [up_n _ (by decide), e44]; exact di_27, by rw [up_s, up_n _ (by decide), e44]; rcases ap_43 with h | h; (first | exact Or.inl ⟨rfl, by omega, h.2⟩ | (exfalso; omega)); (first | exact Or.inr ⟨rfl, fun q => h.2 q.2⟩ | (exfalso; omega)), fr_u (fr_t (fr_w hfU (by decide)) (fr_t (fr_w f_21 (by decide)) (fr_t (fr_w hfW (by decide)) (fr_w f_43 (by decide))))) (by decide)⟩) | exact ⟨by simp [up]; exact e3, by simp [up]; exact di_27, by simp [up]; intro q; exact absurd q h_38, fr_u (fr_u (fr_t (fr_w hfU (by decide)) (fr_t (fr_w f_21 (by decide)) (fr_w f_27 (by decide)))) (by decide)) (by decide)⟩)
    · skip
      have hfV : fr [38] V_27 (up V_27 38 4 x_27) := fr_u fr_0 (by decide)
      have hfW : fr [38, 39, 40, 41] V_21 (up V_27 38 4 x_27) := fr_t (fr_w f_27 (by decide)) (fr_w hfV (by decide))
      have r5 : (up V_27 38 4 x_27) 15 5 = V 15 5 := (hfW 15 5 (by decide)).trans p5
      have r3 : (up V_27 38 4 x_27) 15 3 = V 15 3 := (hfW 15 3 (by decide)).trans p3
      have r6 : (up V_27 38 4 x_27) 15 6 = V 15 6 := (hfW 15 6 (by decide)).trans p6
      have r16 : (up V_27 38 4 x_27) 16 = V 16 := funext fun b => (hfW 16 b (by decide)).trans (congrFun p16 b)
      have roU : RO (up V_27 38 4 x_27) 15 := ro21.sm (fun b => hfW 15 b (by decide))
      have trU : TR (up V_27 38 4 x_27) 15 := fun e h0 h1 => by rw [show (up V_27 38 4 x_27) (15 + 1) e = V (15 + 1) e from congrFun r16 e, r3]; exact ht e h0 (by rw [r5] at h1; exact h1)
      have lU : LK (up V_27 38 4 x_27) 17 ((up V_27 38 4 x_27) 15 5) ((up V_27 38 4 x_27) 16) (fun e => e / (up V_27 38 4 x_27) 15 3) (fun e => e % (up V_27 38 4 x_27) 15 6) := by rw [r5, r16, r3, r6]; exact lk1.sm (fun b => hfW 17 b (by decide))
      have lU2 : LK (up V_27 38 4 x_27) 18 ((up V_27 38 4 x_27) 15 5) ((up V_27 38 4 x_27) 16) (fun e => e % (up V_27 38 4 x_27) 15 6) (fun e => e / (up V_27 38 4 x_27) 15 3) := by rw [r5, r16, r3, r6]; exact lk2.sm (fun b => hfW 18 b (by decide))
      rw [up_s] at h_38
      refine j_al0 hX dX6_prepare_41 rfl ?_
      refine j_al1 hX dX6_prepare_42 rfl ?_
      refine j_cVI1 (ci := 6) hX hG lk_X6_40 (ok_X6_keepsRowsApart (by first | assumption | omega | decide) (by first | assumption | omega | decide) (by first | assumption | omega | decide) (by first | assumption | omega | decide)) (by decide) rfl (Nat.le_of_ble_eq_true rfl) (Nat.le_of_ble_eq_true rfl) (Nat.le_of_ble_eq_true rfl) rfl dX6_prepare_43 (fun x_43 V_43 h_43 => ?_)
      obtain ⟨ap_43, f_43⟩ := h_43
      rw [r16, r3, r6, r5] at ap_43
      refine j_if_eq (tgt := 53) hX dX6_prepare_46 (by decide) (fun h_46 => ?_) (fun h_46 => ?_)
      · skip
        try rw [up_s] at h_38
        refine j_iconst hX dX6_prepare_53 ⟨by decide, by decide⟩ ?_
        refine j_putZ hX hG fp_X6_44 rfl (by omega) (by decide) dX6_prepare_54 ?_
        exact j_ret hR dX6_prepare_57 (by have e3 : V_27 38 3 = V 15 7 := (by rw [f_27 38 3 (by decide), f_21 38 3 (by decide), up_s]); first | (have e43 : V_43 38 3 = V 15 7 := (by rw [f_43 38 3 (by decide), up_n _ (by decide)]; exact e3); have e44 : V_43 38 4 = x_27 := (by rw [f_43 38 4 (by decide), up_s]); exact ⟨by rw [up_n _ (by decide)]; exact e43, by rw [up_n _ (by decide), e44]; exact di_27, by rw [up_s, up_n _ (by decide), e44]; rcases ap_43 with h | h; (first | exact Or.inl ⟨rfl, by omega, h.2⟩ | (exfalso; omega)); (first | exact Or.inr ⟨rfl, fun q => h.2 q.2⟩ | (exfalso; omega)), fr_u (fr_t (fr_w hfU (by decide)) (fr_t (fr_w f_21 (by decide)) (fr_t (fr_w hfW (by decide)) (fr_w f_43 (by decide))))) (by decide)⟩) | exact ⟨by simp [up]; exact e3, by simp [up]; exact di_27, by simp [up]; intro q; exact absurd q h_38, fr_u (fr_u (fr_t (fr_w hfU (by decide)) (fr_t (fr_w f_21 (by decide)) (fr_w f_27 (by decide)))) (by decide)) (by decide)⟩)
      · skip
        refine j_iconst hX dX6_prepare_49 ⟨by decide, by decide⟩ ?_
        refine j_goto (tgt := 54) hX dX6_prepare_50 (by decide) ?_
        refine j_putZ hX hG fp_X6_44 rfl (by omega) (by decide) dX6_prepare_54 ?_
        exact j_ret hR dX6_prepare_57 (by have e3 : V_27 38 3 = V 15 7 := (by rw [f_27 38 3 (by decide), f_21 38 3 (by decide), up_s]); first | (have e43 : V_43 38 3 = V 15 7 := (by rw [f_43 38 3 (by decide), up_n _ (by decide)]; exact e3); have e44 : V_43 38 4 = x_27 := (by rw [f_43 38 4 (by decide), up_s]); exact ⟨by rw [up_n _ (by decide)]; exact e43, by rw [up_n _ (by decide), e44]; exact di_27, by rw [up_s, up_n _ (by decide), e44]; rcases ap_43 with h | h; (first | exact Or.inl ⟨rfl, by omega, h.2⟩ | (exfalso; omega)); (first | exact Or.inr ⟨rfl, fun q => h.2 q.2⟩ | (exfalso; omega)), fr_u (fr_t (fr_w hfU (by decide)) (fr_t (fr_w f_21 (by decide)) (fr_t (fr_w hfW (by decide)) (fr_w f_43 (by decide))))) (by decide)⟩) | exact ⟨by simp [up]; exact e3, by simp [up]; exact di_27, by simp [up]; intro q; exact absurd q h_38, fr_u (fr_u (fr_t (fr_w hfU (by decide)) (fr_t (fr_w f_21 (by decide)) (fr_w f_27 (by decide)))) (by decide)) (by decide)⟩)
  · skip
    exact j_ret hR dX6_prepare_11 ⟨by omega, (hpk (by omega)).1, (hpk (by omega)).2, fr_0⟩
