theorem casT_c {a : List (Int × Int)} (P : Int → Prop) {f h : Int → Int} (e : ∀ y, P y → f y = h y) : ∀ x, P x → casT a f x = casT a h x := by
  induction a generalizing f h with
  | nil => exact e
  | cons d r ih => exact ih (f := fun j => if j = d.1 then d.2 else f j) (h := fun j => if j = d.1 then d.2 else h j) (fun y hy => by show (if y = d.1 then d.2 else f y) = if y = d.1 then d.2 else h y; rw [e y hy])
set_option maxHeartbeats 4000000 in
theorem ok_X4_readCases {V : VV} {s : Int} {q : Nat} (ht : TB V) (hk : TK V s) (hz : V 1 5 = 0 ∧ V 1 6 = -1) (hgp : GP V 4 q) (ho : RO V 6) (htr : TR V 6) (h3 : V 6 3 = gO q) (hv : 0 ≤ V 6 7 ∧ V 6 7 ≤ 900000) : Ok NC yX4_readCases cX4_readCases 2 (some .boolean) 5 108 [vA 1] V (pI (fun x9 V' => LR V' x9 (pCases (V 3) (V 2 1) (gO q) (V 6 4) 13 0 [] s) (fun r => TK V' r.2 ∧ TR V' 6 ∧ ∀ e, V' 7 e = casT r.1 (V 7) e) ∧ V' 2 1 = V 2 1 ∧ fr [1, 2, 6, 7, 12] V V' ∧ (∀ b, b ≠ 7 → V' 6 b = V 6 b) ∧ V 6 7 ≤ V' 6 7 ∧ V' 6 7 ≤ V 6 7 + 12)) := by
  refine Ok.intro (by decide +kernel) (Nat.le_of_ble_eq_true rfl) (fun X G hX hG hR hoa hoV => ?_)
  show J X G 0 [vA 1, vU] [] V
  have ff_i : fr [] V V := fr_0
  have eT_i : V 3 = V 3 := rfl
  have l_i : V 2 1 = V 2 1 := rfl
  have tb_i := ht
  have tk_i := hk
  have z_i := hz
  have hO6 := gO_le hgp.1
  have a3_i := h3
  have a4_i : V 6 4 = V 6 4 := rfl
  have a5_i : V 6 5 = V 6 5 := rfl
  have gp_i := hgp
  have ro_i := ho
  have tr_i := htr
  have hob := ho.b
  refine j_al0 hX dX4_readCases_0 rfl ?_
  refine j_getR (q := 12) hX hG fl_X4_39 rfl rfl (by decide) dX4_readCases_1 ?_
  refine j_iconst hX dX4_readCases_4 ⟨by decide, by decide⟩ ?_
  refine j_cSV2 hX hG lk_X4_150 (ok_J7_fill_53178 (n := 216) (by decide) (by first | assumption | decide)) (Nat.le_of_ble_eq_true rfl) (Nat.le_of_ble_eq_true rfl) (Nat.le_of_ble_eq_true rfl) rfl dX4_readCases_5 (fun V_5 h_5 => ?_)
  have f_5 : fr [12] V V_5 := h_5 ▸ fr_f fr_0 (by decide)
  refine j_iconst hX dX4_readCases_8 ⟨by decide, by decide⟩ ?_
  refine j_is1 hX dX4_readCases_9 rfl ?_
  have lp_10 : ∀ (f9 : Nat) (c s1 : Int) (done : List (Int × Int)) (seen : List Int) (W : VV), (0 ≤ c ∧ c ≤ 12) → (TK W s1) → (W 2 1 = V 2 1) → (fr [1, 2, 6, 7, 12] V W) → (W 1 5 = 0 ∧ W 1 6 = -1) → (pCases (V 3) (V 2 1) (gO q) (V 6 4) 13 0 [] s = (pCases (V 3) (V 2 1) (gO q) (V 6 4) (13 - c).toNat c seen s1).map (fun z => (done ++ z.1, z.2))) → (TR W 6) → (∀ e, W 7 e = casT done (V 7) e) → (∀ b, b ≠ 7 → W 6 b = V 6 b) → (V 6 7 ≤ W 6 7 ∧ W 6 7 ≤ V 6 7 + c) → (∀ j, 0 ≤ j → j < 216 → (W 12 j ≠ 0 ↔ j ∈ seen)) → ((13 - c).toNat) < f9 → J X G 10 [vA 1, vI c] [] W := by
    intro f9
    induction f9 with
    | zero => intro c s1 done seen W _ _ _ _ _ _ _ _ _ _ _ hm; exact absurd hm (Nat.not_lt_zero _)
    | succ f9 ih_10 =>
      intro c s1 done seen W hb tk_W l_W ff_W z_W hsp tr_W hT h6 h7 hC hm
      refine j_il1 hX dX4_readCases_10 ?_
      refine j_bipush hX dX4_readCases_11 (by decide) ⟨by decide, by decide⟩ ?_
      refine j_icmp_gt (tgt := 62) hX dX4_readCases_13 (by decide) (fun h_13 => ?_) (fun h_13 => ?_)
      · skip
        refine j_iconst hX dX4_readCases_62 ⟨by decide, by decide⟩ ?_
        exact j_retZ hR dX4_readCases_63 (by omega) (by first | (exfalso; omega) | (rw [eT_W, l_W] at h_25; exact ⟨LR.ok (a := (done, s1)) (by rw [hsp, hn9, pCases_no h_25, ma_ok, List.append_nil]) z_W ⟨tk_W, tr_W, hT⟩, l_W, ff_W, h6, by omega⟩))
      · skip
        have eT_W : W 3 = V 3 := funext fun b => ff_W 3 b (by decide)
        have tb_W : TB W := TB_e ht l_W eT_W
        have gp_W : GP W 4 q := hgp.sm (fun b => ff_W 4 b (by decide)) (fun b => ff_W 5 b (by decide))
        have ro_W : RO W 6 := ho.sm6 h6
        have a3_W : W 6 3 = gO q := (h6 3 (by decide)).trans h3
        have a4_W : W 6 4 = V 6 4 := h6 4 (by decide)
        have hn9 : (13 - c).toNat = (12 - c).toNat + 1 := by omega
        refine j_al0 hX dX4_readCases_16 rfl ?_
        refine j_getR (q := 2) hX hG fl_X4_12 rfl rfl (by decide) dX4_readCases_17 ?_
        refine j_ldcS (k := 5) hX dX4_readCases_20 rfl ?_
        refine j_pVI1 (ci := 9) hX hG lk_X4_75 (ok_X9_isWord (by first | assumption | omega | decide) (by first | assumption | omega | decide) (by first | assumption | rfl)) (by decide) rfl (Nat.le_of_ble_eq_true rfl) (Nat.le_of_ble_eq_true rfl) (Nat.le_of_ble_eq_true rfl) rfl dX4_readCases_22 ?_
        refine j_ifz_eq (tgt := 62) hX dX4_readCases_25 (by decide) (fun h_25 => ?_) (fun h_25 => ?_)
        · skip
          refine j_iconst hX dX4_readCases_62 ⟨by decide, by decide⟩ ?_
          exact j_retZ hR dX4_readCases_63 (by omega) (by first | (exfalso; omega) | (rw [eT_W, l_W] at h_25; exact ⟨LR.ok (a := (done, s1)) (by rw [hsp, hn9, pCases_no h_25, ma_ok, List.append_nil]) z_W ⟨tk_W, tr_W, hT⟩, l_W, ff_W, h6, by omega⟩))
        · skip
          rw [eT_W, l_W] at h_25
          have hw9 : isWd (V 3) (V 2 1) s1 wCase = true := h_25
          refine j_il1 hX dX4_readCases_28 ?_
          refine j_bipush hX dX4_readCases_29 (by decide) ⟨by decide, by decide⟩ ?_
          refine j_icmp_lt (tgt := 40) hX dX4_readCases_31 (by decide) (fun h_31 => ?_) (fun h_31 => ?_)
          · skip
            refine j_al0 hX dX4_readCases_40 rfl ?_
            refine j_getR (q := 2) hX hG fl_X4_12 rfl rfl (by decide) dX4_readCases_41 ?_
            refine j_cVV0 (ci := 9) hX hG lk_X4_83 (ok_X9_advance_tk (by first | assumption | omega | decide) (by first | assumption | omega | decide)) (by decide) rfl (Nat.le_of_ble_eq_true rfl) (Nat.le_of_ble_eq_true rfl) (Nat.le_of_ble_eq_true rfl) rfl dX4_readCases_44 (fun V_44 h_44 => ?_)
            obtain ⟨tk_44, q_44, f_44⟩ := h_44
            rw [eT_W, l_W] at tk_44
            have eT_44 : V_44 3 = V 3 := (funext fun b => f_44 3 b (by decide)).trans eT_W
            have l_44 : V_44 2 1 = V 2 1 := q_44.trans l_W
            have tb_44 : TB V_44 := TB_e ht l_44 eT_44
            have ff_44 : fr [1, 2, 6, 7, 12] V V_44 := fr_t (fr_w ff_W (by decide)) (fr_w f_44 (by decide))
            have z_44 : V_44 1 5 = 0 ∧ V_44 1 6 = -1 := ⟨(f_44 1 5 (by decide)).trans z_W.1, (f_44 1 6 (by decide)).trans z_W.2⟩
            have gp_44 : GP V_44 4 q := gp_W.sm (fun b => f_44 4 b (by decide)) (fun b => f_44 5 b (by decide))
            have ro_44 : RO V_44 6 := ro_W.sm (fun b => f_44 6 b (by decide))
            have tr_44 : TR V_44 6 := fun e h0 h1 => by rw [show V_44 (6 + 1) e = W (6 + 1) e from f_44 7 e (by decide), show V_44 6 3 = W 6 3 from f_44 6 3 (by decide)]; exact tr_W e h0 (by rw [show V_44 6 5 = W 6 5 from f_44 6 5 (by decide)] at h1; exact h1)
            have a3_44 : V_44 6 3 = gO q := (f_44 6 3 (by decide)).trans a3_W
            have a4_44 : V_44 6 4 = V 6 4 := (f_44 6 4 (by decide)).trans a4_W
            have hC44 : ∀ j, 0 ≤ j → j < 216 → (V_44 12 j ≠ 0 ↔ j ∈ seen) := fun j h0 h1 => by rw [f_44 12 j (by decide)]; exact hC j h0 h1
            have e744 := f_44 6 7 (by decide)
            refine j_al0 hX dX4_readCases_47 rfl ?_
            refine j_cVI0 (ci := 4) hX hG lk_X4_158 (ok_X4_readCase (by first | assumption | omega | decide) (by first | assumption | omega | decide) (by first | assumption | omega | decide) (by first | assumption | omega | decide) (by first | assumption | omega | decide) (by first | assumption | omega | decide) (by first | assumption | omega | decide) (by first | assumption | omega | decide) (by first | assumption | omega | decide)) (by decide) rfl (Nat.le_of_ble_eq_true rfl) (Nat.le_of_ble_eq_true rfl) (Nat.le_of_ble_eq_true rfl) rfl dX4_readCases_48 (fun x_48 V_48 h_48 => ?_)
            obtain ⟨r_48, q_48, f_48, h6_48, h7_48, h8_48⟩ := h_48
            rw [eT_44, l_44] at r_48
            rw [a4_44] at r_48
            have eT_48 : V_48 3 = V 3 := (funext fun b => f_48 3 b (by decide)).trans eT_44
            have l_48 : V_48 2 1 = V 2 1 := q_48.trans l_44
            have tb_48 : TB V_48 := TB_e ht l_48 eT_48
            have ff_48 : fr [1, 2, 6, 7, 12] V V_48 := fr_t (fr_w ff_44 (by decide)) (fr_w f_48 (by decide))
            refine j_if_ne (tgt := 56) hX dX4_readCases_51 (by decide) (fun h_51 => ?_) (fun h_51 => ?_)
            · skip
              obtain ⟨d, sp_48, z_48, tk_48, tr_48, hd48, hT48a, hC48⟩ := LR.t r_48 h_51
              have hT48 : ∀ e, V_48 7 e = if e = d.1.1 then d.1.2 else V_44 7 e := hT48a
              refine j_inc1 hX dX4_readCases_56 rfl (by omega) ?_
              refine j_goto (tgt := 10) hX dX4_readCases_59 (by decide) ?_
              exact ih_10 _ _ (done ++ [d.1]) _ _ (by omega) tk_48 l_48 ff_48 z_48 (by rw [hsp, hn9, pCases_go hw9 (by omega) sp_48, ma_ma, show (13 - (c + 1)).toNat = (12 - c).toNat by omega]; simp only [List.append_assoc, List.singleton_append]) tr_48 (fun e => by rw [hT48 e, casT_app, f_44 7 e (by decide), hT e]) (fun b hb => by rw [h6_48 b hb, f_44 6 b (by decide), h6 b hb]) (by have e7 := f_44 6 7 (by decide); omega) hC48 (by omega)
            · skip
              refine j_iconst hX dX4_readCases_54 ⟨by decide, by decide⟩ ?_
              exact j_retZ hR dX4_readCases_55 (by omega) (by obtain ⟨e, e1, e2⟩ := LR.f r_48 h_51; exact ⟨LR.er (e := e) (by rw [hsp, hn9, pCases_er hw9 (by omega) e1, ma_er]) e2, l_48, ff_48, fun b hb => by rw [h6_48 b hb, f_44 6 b (by decide), h6 b hb], by omega⟩)
          · skip
            refine j_al0 hX dX4_readCases_34 rfl ?_
            refine j_iconst hX dX4_readCases_35 ⟨by decide, by decide⟩ ?_
            refine j_cVI1 (ci := 4) hX hG lk_X4_79 (ok_X4_fail ) (by decide) rfl (Nat.le_of_ble_eq_true rfl) (Nat.le_of_ble_eq_true rfl) (Nat.le_of_ble_eq_true rfl) rfl dX4_readCases_36 (fun x_36 V_36 h_36 => ?_)
            obtain ⟨e_36, e2_36⟩ := h_36; subst e_36; subst e2_36
            exact j_retZ hR dX4_readCases_39 (by omega) ⟨LR.er (e := (4, s1)) (by rw [hsp, hn9, pCases_4 hw9 (by omega), ma_er]) ⟨by simp [up], by simp [up]; exact tk_W.2.2.1⟩, by simp [up]; exact l_W, fr_u (fr_u ff_W (by decide)) (by decide), fun b hb => by simp [up]; exact h6 b hb, by simp [up]; omega⟩
  exact lp_10 _ _ _ [] [] _ ⟨by decide, by decide⟩ (TK.sm hk (fun b => f_5 2 b (by decide)) (fun b => f_5 3 b (by decide))) (f_5 2 1 (by decide)) (fr_w f_5 (by decide)) ⟨(f_5 1 5 (by decide)).trans hz.1, (f_5 1 6 (by decide)).trans hz.2⟩ (ma_id (r := pCases (V 3) (V 2 1) (gO q) (V 6 4) 13 0 [] s)).symm (fun e h0 h1 => by rw [show V_5 (6 + 1) e = V (6 + 1) e from f_5 7 e (by decide), show V_5 6 3 = V 6 3 from f_5 6 3 (by decide)]; exact htr e h0 (by rw [show V_5 6 5 = V 6 5 from f_5 6 5 (by decide)] at h1; exact h1)) (fun e => f_5 7 e (by decide)) (fun b _ => f_5 6 b (by decide)) (by rw [f_5 6 7 (by decide)]; omega) (fun j h0 h1 => by rw [h_5, fill_in _ h0 h1]; simp) (Nat.lt_succ_self _)
set_option maxHeartbeats 4000000 in
theorem ok_X4_readRing {V : VV} {s : Int} {q : Nat} (ht : TB V) (hk : TK V s) (hz : V 1 5 = 0 ∧ V 1 6 = -1) (hgp : GP V 4 q) : Ok NC yX4_readRing cX4_readRing 2 (some .boolean) 6 128 [vA 1] V (pI (fun x9 V' => LR V' x9 (pRing (V 3) (V 2 1) (gO q) s) (fun r => TK V' r.2 ∧ V' 10 1 = r.1.length ∧ (1 ≤ V' 10 1 ∧ V' 10 1 ≤ 16) ∧ ∀ k, 0 ≤ k → k < V' 10 1 → V' 11 k = r.1.getD k.toNat 0 ∧ 0 ≤ V' 11 k ∧ V' 11 k < gO q) ∧ V' 2 1 = V 2 1 ∧ fr [1, 2, 10, 11] V V')) := by
  refine Ok.intro (by decide +kernel) (Nat.le_of_ble_eq_true rfl) (fun X G hX hG hR hoa hoV => ?_)
  show J X G 0 [vA 1, vU] [] V
  have ff_i : fr [] V V := fr_0
  have eT_i : V 3 = V 3 := rfl
  have l_i : V 2 1 = V 2 1 := rfl
  have tb_i := ht
  have tk_i := hk
  have z_i := hz
  have hO6 := gO_le hgp.1
  refine j_al0 hX dX4_readRing_0 rfl ?_
  refine j_ldcS (k := 6) hX dX4_readRing_1 rfl ?_
  refine j_cVI1 (ci := 4) hX hG lk_X4_115 (ok_X4_takeWord (by first | assumption | omega | decide) (by first | assumption | omega | decide) (by first | assumption | omega | decide) (by first | assumption | rfl)) (by decide) rfl (Nat.le_of_ble_eq_true rfl) (Nat.le_of_ble_eq_true rfl) (Nat.le_of_ble_eq_true rfl) rfl dX4_readRing_3 (fun x_3 V_3 h_3 => ?_)
  obtain ⟨r_3, q_3, f_3⟩ := h_3
  have eT_3 : V_3 3 = V 3 := (funext fun b => f_3 3 b (by decide)).trans eT_i
  have l_3 : V_3 2 1 = V 2 1 := q_3.trans l_i
  have tb_3 : TB V_3 := TB_e ht l_3 eT_3
  have ff_3 : fr [1, 2, 10, 11] V V_3 := fr_t (fr_w ff_i (by decide)) (fr_w f_3 (by decide))
  refine j_if_ne (tgt := 11) hX dX4_readRing_6 (by decide) (fun h_6 => ?_) (fun h_6 => ?_)
  · skip
    obtain ⟨s_3, sp_3, z_3, tk_3⟩ := LR.t r_3 h_6
    refine j_al0 hX dX4_readRing_11 rfl ?_
    refine j_getR (q := 10) hX hG fl_X4_35 rfl rfl (by decide) dX4_readRing_12 ?_
    refine j_iconst hX dX4_readRing_15 ⟨by decide, by decide⟩ ?_
    refine j_putI hX hG fp_X4_175 rfl (by decide) dX4_readRing_16 ?_
    refine j_iconst hX dX4_readRing_19 ⟨by decide, by decide⟩ ?_
    refine j_is1 hX dX4_readRing_20 rfl ?_
    have lp_21 : ∀ (f9 : Nat) (c s1 : Int) (done : List Int) (W : VV), (0 ≤ c ∧ c ≤ 16) → (TK W s1) → (W 2 1 = V 2 1) → (fr [1, 2, 10, 11] V W) → (W 1 5 = 0 ∧ W 1 6 = -1) → (pCells (V 3) (V 2 1) (gO q) 17 0 s_3 = (pCells (V 3) (V 2 1) (gO q) (17 - c).toNat c s1).map (fun z => (done ++ z.1, z.2))) → (W 10 1 = c ∧ (done.length : Int) = c) → (∀ k, 0 ≤ k → k < c → W 11 k = done.getD k.toNat 0 ∧ 0 ≤ W 11 k ∧ W 11 k < gO q) → ((17 - c).toNat) < f9 → J X G 21 [vA 1, vI c] [] W := by
      intro f9
      induction f9 with
      | zero => intro c s1 done W _ _ _ _ _ _ _ _ hm; exact absurd hm (Nat.not_lt_zero _)
      | succ f9 ih_21 =>
        intro c s1 done W hb tk_W l_W ff_W z_W hsp hl hT hm
        refine j_il1 hX dX4_readRing_21 ?_
        refine j_bipush hX dX4_readRing_22 (by decide) ⟨by decide, by decide⟩ ?_
        refine j_icmp_gt (tgt := 98) hX dX4_readRing_24 (by decide) (fun h_24 => ?_) (fun h_24 => ?_)
        · skip
          exfalso; omega
        · skip
          have eT_W : W 3 = V 3 := funext fun b => ff_W 3 b (by decide)
          have tb_W : TB W := TB_e ht l_W eT_W
          have hn9 : (17 - c).toNat = (16 - c).toNat + 1 := by omega
          have hg1 : W 4 1 = gO q := (ff_W 4 1 (by decide)).trans hgp.2.1
          refine j_il1 hX dX4_readRing_27 ?_
          refine j_if_le (tgt := 50) hX dX4_readRing_28 (by decide) (fun h_28 => ?_) (fun h_28 => ?_)
          · skip
            have hns : ¬ (0 < c ∧ isSy (V 3) (V 2 1) s1 59 = true) := by first | (rw [eT_W, l_W] at h_40; exact fun z => h_40 z.2) | omega
            refine j_al0 hX dX4_readRing_50 rfl ?_
            refine j_cVI0 (ci := 4) hX hG lk_X4_143 (ok_X4_isState (by first | assumption | omega | decide) (by first | assumption | omega | decide) ⟨hg1, by omega, by omega⟩) (by decide) rfl (Nat.le_of_ble_eq_true rfl) (Nat.le_of_ble_eq_true rfl) (Nat.le_of_ble_eq_true rfl) rfl dX4_readRing_51 (fun x_51 V_51 h_51 => ?_)
            obtain ⟨r_51, f_51⟩ := h_51
            have q_51 : V_51 2 1 = W 2 1 := f_51 2 1 (by decide)
            rw [eT_W, l_W] at r_51
            have eT_51 : V_51 3 = V 3 := (funext fun b => f_51 3 b (by decide)).trans eT_W
            have l_51 : V_51 2 1 = V 2 1 := q_51.trans l_W
            have tb_51 : TB V_51 := TB_e ht l_51 eT_51
            have ff_51 : fr [1, 2, 10, 11] V V_51 := fr_t (fr_w ff_W (by decide)) (fr_w f_51 (by decide))
            have tk_51 := TK.sm tk_W (fun b => f_51 2 b (by decide)) (fun b => f_51 3 b (by decide))
            refine j_if_ne (tgt := 59) hX dX4_readRing_54 (by decide) (fun h_54 => ?_) (fun h_54 => ?_)
            · skip
              obtain ⟨s_51, sp_51, z_51, u_51⟩ := LR.t r_51 h_54
              have hnum := pNu_ok sp_51
              obtain ⟨k0, k1, k2, k3, k4, k5⟩ := tk_51
              have hN : V_51 2 4 = sgN (V 3) (V 2 1) s1 := by rw [k5 (by rw [k3, eT_51, l_51]; exact hnum.1), eT_51, l_51]
              have tk_51 : TK V_51 s1 := ⟨k0, k1, k2, k3, k4, k5⟩
              refine j_il1 hX dX4_readRing_59 ?_
              refine j_bipush hX dX4_readRing_60 (by decide) ⟨by decide, by decide⟩ ?_
              refine j_icmp_lt (tgt := 71) hX dX4_readRing_62 (by decide) (fun h_62 => ?_) (fun h_62 => ?_)
              · skip
                refine j_al0 hX dX4_readRing_71 rfl ?_
                refine j_getR (q := 10) hX hG fl_X4_35 rfl rfl (by decide) dX4_readRing_72 ?_
                refine j_al0 hX dX4_readRing_75 rfl ?_
                refine j_getR (q := 2) hX hG fl_X4_12 rfl rfl (by decide) dX4_readRing_76 ?_
                refine j_getI hX hG fl_X4_93 (Or.inl rfl) (by decide) dX4_readRing_79 ?_
                rw [hN]
                refine j_cVV1 (ci := 7) hX hG lk_X4_178 (ok_X7_add (Or.inl rfl) (by rw [f_51 10 1 (by decide)]; omega)) (by decide) rfl (Nat.le_of_ble_eq_true rfl) (Nat.le_of_ble_eq_true rfl) (Nat.le_of_ble_eq_true rfl) rfl dX4_readRing_82 (fun V_82 h_82 => ?_)
                have f_82 : fr [10, 11] V_51 V_82 := h_82 ▸ fr_u (fr_u fr_0 (by decide)) (by decide)
                have q_82 : V_82 2 1 = V_51 2 1 := f_82 2 1 (by decide)
                have eT_82 : V_82 3 = V 3 := (funext fun b => f_82 3 b (by decide)).trans eT_51
                have l_82 : V_82 2 1 = V 2 1 := q_82.trans l_51
                have tb_82 : TB V_82 := TB_e ht l_82 eT_82
                have ff_82 : fr [1, 2, 10, 11] V V_82 := fr_t (fr_w ff_51 (by decide)) (fr_w f_82 (by decide))
                have tk_82 := TK.sm tk_51 (fun b => f_82 2 b (by decide)) (fun b => f_82 3 b (by decide))
                have z_82 : V_82 1 5 = 0 ∧ V_82 1 6 = -1 := ⟨(f_82 1 5 (by decide)).trans z_51.1, (f_82 1 6 (by decide)).trans z_51.2⟩
                try dsimp only [Int.reduceAdd]
                refine j_al0 hX dX4_readRing_85 rfl ?_
                refine j_getR (q := 2) hX hG fl_X4_12 rfl rfl (by decide) dX4_readRing_86 ?_
                refine j_cVV0 (ci := 9) hX hG lk_X4_83 (ok_X9_advance_tk (by first | assumption | omega | decide) (by first | assumption | omega | decide)) (by decide) rfl (Nat.le_of_ble_eq_true rfl) (Nat.le_of_ble_eq_true rfl) (Nat.le_of_ble_eq_true rfl) rfl dX4_readRing_89 (fun V_89 h_89 => ?_)
                obtain ⟨tk_89, q_89, f_89⟩ := h_89
                rw [eT_82, l_82] at tk_89
                have eT_89 : V_89 3 = V 3 := (funext fun b => f_89 3 b (by decide)).trans eT_82
                have l_89 : V_89 2 1 = V 2 1 := q_89.trans l_82
                have tb_89 : TB V_89 := TB_e ht l_89 eT_89
                have ff_89 : fr [1, 2, 10, 11] V V_89 := fr_t (fr_w ff_82 (by decide)) (fr_w f_89 (by decide))
                have z_89 : V_89 1 5 = 0 ∧ V_89 1 6 = -1 := ⟨(f_89 1 5 (by decide)).trans z_82.1, (f_89 1 6 (by decide)).trans z_82.2⟩
                refine j_inc1 hX dX4_readRing_92 rfl (by omega) ?_
                refine j_goto (tgt := 21) hX dX4_readRing_95 (by decide) ?_
                exact ih_21 _ _ (done ++ [sgN (V 3) (V 2 1) s1]) _ (by omega) tk_89 l_89 ff_89 z_89 (by rw [hsp, hn9, pCells_go hns sp_51 (by omega), ma_ma, show (17 - (c + 1)).toNat = (16 - c).toNat by omega]; simp only [List.append_assoc, List.singleton_append]) ⟨by rw [f_89 10 1 (by decide), h_82, up_s, f_51 10 1 (by decide), hl.1], by rw [List.length_append, List.length_singleton]; omega⟩ (fun k h0 h1 => by rw [f_89 11 k (by decide), h_82, up_n _ (by omega), getD_app h0 (by omega)]; simp only [show (10 : Int) + 1 = 11 by decide, show V_51 10 1 = c from (f_51 10 1 (by decide)).trans hl.1]; by_cases e : k = c; (rw [if_pos (by omega), e, up_s]; exact ⟨rfl, by omega⟩); rw [if_neg (by omega), up_n _ (by omega), f_51 11 k (by decide)]; exact hT k h0 (by omega)) (by omega)
              · skip
                refine j_al0 hX dX4_readRing_65 rfl ?_
                refine j_iconst hX dX4_readRing_66 ⟨by decide, by decide⟩ ?_
                refine j_cVI1 (ci := 4) hX hG lk_X4_79 (ok_X4_fail ) (by decide) rfl (Nat.le_of_ble_eq_true rfl) (Nat.le_of_ble_eq_true rfl) (Nat.le_of_ble_eq_true rfl) rfl dX4_readRing_67 (fun x_67 V_67 h_67 => ?_)
                obtain ⟨e_67, e2_67⟩ := h_67; subst e_67; subst e2_67
                exact j_retZ hR dX4_readRing_70 (by omega) ⟨LR.er (e := (4, s1)) (by unfold pRing; rw [sp_3, bi_ok, hsp, hn9, pCells_4 hns sp_51 (by omega), ma_er]) ⟨by simp [up], by simp [up]; exact tk_51.2.2.1⟩, by simp [up]; exact l_51, fr_u (fr_u ff_51 (by decide)) (by decide)⟩
            · skip
              refine j_iconst hX dX4_readRing_57 ⟨by decide, by decide⟩ ?_
              exact j_retZ hR dX4_readRing_58 (by omega) (by obtain ⟨e, e1, e2⟩ := LR.f r_51 h_54; exact ⟨LR.er (e := e) (by unfold pRing; rw [sp_3, bi_ok, hsp, hn9, pCells_er hns e1, ma_er]) e2, l_51, ff_51⟩)
          · skip
            refine j_al0 hX dX4_readRing_31 rfl ?_
            refine j_getR (q := 2) hX hG fl_X4_12 rfl rfl (by decide) dX4_readRing_32 ?_
            refine j_bipush hX dX4_readRing_35 (by decide) ⟨by decide, by decide⟩ ?_
            refine j_pVI1 (ci := 9) hX hG lk_X4_86 (ok_X9_isSymbol (by first | assumption | omega | decide) (by first | assumption | omega | decide)) (by decide) rfl (Nat.le_of_ble_eq_true rfl) (Nat.le_of_ble_eq_true rfl) (Nat.le_of_ble_eq_true rfl) rfl dX4_readRing_37 ?_
            refine j_ifz_eq (tgt := 50) hX dX4_readRing_40 (by decide) (fun h_40 => ?_) (fun h_40 => ?_)
            · skip
              have hns : ¬ (0 < c ∧ isSy (V 3) (V 2 1) s1 59 = true) := by first | (rw [eT_W, l_W] at h_40; exact fun z => h_40 z.2) | omega
              refine j_al0 hX dX4_readRing_50 rfl ?_
              refine j_cVI0 (ci := 4) hX hG lk_X4_143 (ok_X4_isState (by first | assumption | omega | decide) (by first | assumption | omega | decide) ⟨hg1, by omega, by omega⟩) (by decide) rfl (Nat.le_of_ble_eq_true rfl) (Nat.le_of_ble_eq_true rfl) (Nat.le_of_ble_eq_true rfl) rfl dX4_readRing_51 (fun x_51 V_51 h_51 => ?_)
              obtain ⟨r_51, f_51⟩ := h_51
              have q_51 : V_51 2 1 = W 2 1 := f_51 2 1 (by decide)
              rw [eT_W, l_W] at r_51
              have eT_51 : V_51 3 = V 3 := (funext fun b => f_51 3 b (by decide)).trans eT_W
              have l_51 : V_51 2 1 = V 2 1 := q_51.trans l_W
              have tb_51 : TB V_51 := TB_e ht l_51 eT_51
              have ff_51 : fr [1, 2, 10, 11] V V_51 := fr_t (fr_w ff_W (by decide)) (fr_w f_51 (by decide))
              have tk_51 := TK.sm tk_W (fun b => f_51 2 b (by decide)) (fun b => f_51 3 b (by decide))
              refine j_if_ne (tgt := 59) hX dX4_readRing_54 (by decide) (fun h_54 => ?_) (fun h_54 => ?_)
              · skip
                obtain ⟨s_51, sp_51, z_51, u_51⟩ := LR.t r_51 h_54
                have hnum := pNu_ok sp_51
                obtain ⟨k0, k1, k2, k3, k4, k5⟩ := tk_51
                have hN : V_51 2 4 = sgN (V 3) (V 2 1) s1 := by rw [k5 (by rw [k3, eT_51, l_51]; exact hnum.1), eT_51, l_51]
                have tk_51 : TK V_51 s1 := ⟨k0, k1, k2, k3, k4, k5⟩
                refine j_il1 hX dX4_readRing_59 ?_
                refine j_bipush hX dX4_readRing_60 (by decide) ⟨by decide, by decide⟩ ?_
                refine j_icmp_lt (tgt := 71) hX dX4_readRing_62 (by decide) (fun h_62 => ?_) (fun h_62 => ?_)
                · skip
                  refine j_al0 hX dX4_readRing_71 rfl ?_
                  refine j_getR (q := 10) hX hG fl_X4_35 rfl rfl (by decide) dX4_readRing_72 ?_
                  refine j_al0 hX dX4_readRing_75 rfl ?_
                  refine j_getR (q := 2) hX hG fl_X4_12 rfl rfl (by decide) dX4_readRing_76 ?_
                  refine j_getI hX hG fl_X4_93 (Or.inl rfl) (by decide) dX4_readRing_79 ?_
                  rw [hN]
                  refine j_cVV1 (ci := 7) hX hG lk_X4_178 (ok_X7_add (Or.inl rfl) (by rw [f_51 10 1 (by decide)]; omega)) (by decide) rfl (Nat.le_of_ble_eq_true rfl) (Nat.le_of_ble_eq_true rfl) (Nat.le_of_ble_eq_true rfl) rfl dX4_readRing_82 (fun V_82 h_82 => ?_)
                  have f_82 : fr [10, 11] V_51 V_82 := h_82 ▸ fr_u (fr_u fr_0 (by decide)) (by decide)
                  have q_82 : V_82 2 1 = V_51 2 1 := f_82 2 1 (by decide)
                  have eT_82 : V_82 3 = V 3 := (funext fun b => f_82 3 b (by decide)).trans eT_51
                  have l_82 : V_82 2 1 = V 2 1 := q_82.trans l_51
                  have tb_82 : TB V_82 := TB_e ht l_82 eT_82
                  have ff_82 : fr [1, 2, 10, 11] V V_82 := fr_t (fr_w ff_51 (by decide)) (fr_w f_82 (by decide))
                  have tk_82 := TK.sm tk_51 (fun b => f_82 2 b (by decide)) (fun b => f_82 3 b (by decide))
                  have z_82 : V_82 1 5 = 0 ∧ V_82 1 6 = -1 := ⟨(f_82 1 5 (by decide)).trans z_51.1, (f_82 1 6 (by decide)).trans z_51.2⟩
                  try dsimp only [Int.reduceAdd]
                  refine j_al0 hX dX4_readRing_85 rfl ?_
                  refine j_getR (q := 2) hX hG fl_X4_12 rfl rfl (by decide) dX4_readRing_86 ?_
                  refine j_cVV0 (ci := 9) hX hG lk_X4_83 (ok_X9_advance_tk (by first | assumption | omega | decide) (by first | assumption | omega | decide)) (by decide) rfl (Nat.le_of_ble_eq_true rfl) (Nat.le_of_ble_eq_true rfl) (Nat.le_of_ble_eq_true rfl) rfl dX4_readRing_89 (fun V_89 h_89 => ?_)
                  obtain ⟨tk_89, q_89, f_89⟩ := h_89
                  rw [eT_82, l_82] at tk_89
                  have eT_89 : V_89 3 = V 3 := (funext fun b => f_89 3 b (by decide)).trans eT_82
                  have l_89 : V_89 2 1 = V 2 1 := q_89.trans l_82
                  have tb_89 : TB V_89 := TB_e ht l_89 eT_89
                  have ff_89 : fr [1, 2, 10, 11] V V_89 := fr_t (fr_w ff_82 (by decide)) (fr_w f_89 (by decide))
                  have z_89 : V_89 1 5 = 0 ∧ V_89 1 6 = -1 := ⟨(f_89 1 5 (by decide)).trans z_82.1, (f_89 1 6 (by decide)).trans z_82.2⟩
                  refine j_inc1 hX dX4_readRing_92 rfl (by omega) ?_
                  refine j_goto (tgt := 21) hX dX4_readRing_95 (by decide) ?_
                  exact ih_21 _ _ (done ++ [sgN (V 3) (V 2 1) s1]) _ (by omega) tk_89 l_89 ff_89 z_89 (by rw [hsp, hn9, pCells_go hns sp_51 (by omega), ma_ma, show (17 - (c + 1)).toNat = (16 - c).toNat by omega]; simp only [List.append_assoc, List.singleton_append]) ⟨by rw [f_89 10 1 (by decide), h_82, up_s, f_51 10 1 (by decide), hl.1], by rw [List.length_append, List.length_singleton]; omega⟩ (fun k h0 h1 => by rw [f_89 11 k (by decide), h_82, up_n _ (by omega), getD_app h0 (by omega)]; simp only [show (10 : Int) + 1 = 11 by decide, show V_51 10 1 = c from (f_51 10 1 (by decide)).trans hl.1]; by_cases e : k = c; (rw [if_pos (by omega), e, up_s]; exact ⟨rfl, by omega⟩); rw [if_neg (by omega), up_n _ (by omega), f_51 11 k (by decide)]; exact hT k h0 (by omega)) (by omega)
                · skip
                  refine j_al0 hX dX4_readRing_65 rfl ?_
                  refine j_iconst hX dX4_readRing_66 ⟨by decide, by decide⟩ ?_
                  refine j_cVI1 (ci := 4) hX hG lk_X4_79 (ok_X4_fail ) (by decide) rfl (Nat.le_of_ble_eq_true rfl) (Nat.le_of_ble_eq_true rfl) (Nat.le_of_ble_eq_true rfl) rfl dX4_readRing_67 (fun x_67 V_67 h_67 => ?_)
                  obtain ⟨e_67, e2_67⟩ := h_67; subst e_67; subst e2_67
                  exact j_retZ hR dX4_readRing_70 (by omega) ⟨LR.er (e := (4, s1)) (by unfold pRing; rw [sp_3, bi_ok, hsp, hn9, pCells_4 hns sp_51 (by omega), ma_er]) ⟨by simp [up], by simp [up]; exact tk_51.2.2.1⟩, by simp [up]; exact l_51, fr_u (fr_u ff_51 (by decide)) (by decide)⟩
              · skip
                refine j_iconst hX dX4_readRing_57 ⟨by decide, by decide⟩ ?_
                exact j_retZ hR dX4_readRing_58 (by omega) (by obtain ⟨e, e1, e2⟩ := LR.f r_51 h_54; exact ⟨LR.er (e := e) (by unfold pRing; rw [sp_3, bi_ok, hsp, hn9, pCells_er hns e1, ma_er]) e2, l_51, ff_51⟩)
            · skip
              rw [eT_W, l_W] at h_40
              refine j_al0 hX dX4_readRing_43 rfl ?_
              refine j_bipush hX dX4_readRing_44 (by decide) ⟨by decide, by decide⟩ ?_
              refine j_cVI1 (ci := 4) hX hG lk_X4_122 (ok_X4_takeSymbol (by first | assumption | omega | decide) (by first | assumption | omega | decide) (by first | assumption | omega | decide)) (by decide) rfl (Nat.le_of_ble_eq_true rfl) (Nat.le_of_ble_eq_true rfl) (Nat.le_of_ble_eq_true rfl) rfl dX4_readRing_46 (fun x_46 V_46 h_46 => ?_)
              obtain ⟨r_46, q_46, f_46⟩ := h_46
              rw [eT_W, l_W] at r_46
              have eT_46 : V_46 3 = V 3 := (funext fun b => f_46 3 b (by decide)).trans eT_W
              have l_46 : V_46 2 1 = V 2 1 := q_46.trans l_W
              have tb_46 : TB V_46 := TB_e ht l_46 eT_46
              have ff_46 : fr [1, 2, 10, 11] V V_46 := fr_t (fr_w ff_W (by decide)) (fr_w f_46 (by decide))
              exact j_retZ hR dX4_readRing_49 (LR.z r_46) ⟨by unfold pRing; rw [sp_3, bi_ok, hsp, hn9, pCells_no ⟨by omega, h_40⟩]; unfold pSy at r_46; rw [if_pos h_40] at r_46; obtain ⟨a1, a2, a3⟩ := r_46; exact ⟨a1, a2, a3, by rw [f_46 10 1 (by decide)]; show _ = ((done ++ []).length : Int); rw [List.append_nil]; omega, by rw [f_46 10 1 (by decide)]; omega, fun k h0 h1 => by rw [f_46 10 1 (by decide)] at h1; rw [f_46 11 k (by decide)]; show _ = (done ++ []).getD k.toNat 0 ∧ _; rw [List.append_nil]; exact hT k h0 (by omega)⟩, l_46, ff_46⟩
    exact lp_21 _ _ _ [] _ ⟨by decide, by decide⟩ (TK.sm tk_3 (fun b => up_n _ (by omega)) (fun b => up_n _ (by omega))) (by rw [up_n _ (by decide)]; exact l_3) (fr_u (fr_w ff_3 (by decide)) (by decide)) (by rw [up_n _ (by decide), up_n _ (by decide)]; exact z_3) (ma_id (r := pCells (V 3) (V 2 1) (gO q) 17 0 s_3)).symm ⟨up_s .., rfl⟩ (by omega) (Nat.lt_succ_self _)
  · skip
    refine j_iconst hX dX4_readRing_9 ⟨by decide, by decide⟩ ?_
    exact j_retZ hR dX4_readRing_10 (by omega) (by obtain ⟨e, e1, e2⟩ := LR.f r_3 h_6; exact ⟨LR.er (e := e) (by unfold pRing; rw [e1, bi_er]) e2, l_3, ff_3⟩)
set_option maxHeartbeats 4000000 in
theorem ok_X4_readEnd {V : VV} {s : Int} (hk : TK V s) (hz : V 1 5 = 0 ∧ V 1 6 = -1) : Ok NC yX4_readEnd cX4_readEnd 1 (some .boolean) 1 21 [vA 1] V (pI (fun x9 V' => LR V' x9 (pEnd (V 3) (V 2 1) s) (fun _ => True) ∧ fr [1] V V')) := by
  refine Ok.intro (by decide +kernel) (Nat.le_of_ble_eq_true rfl) (fun X G hX hG hR hoa hoV => ?_)
  show J X G 0 [vA 1] [] V
  obtain ⟨k0, k1, k2, k3, k4, k5⟩ := hk
  refine j_al0 hX dX4_readEnd_0 rfl ?_
  refine j_getR (q := 2) hX hG fl_X4_12 rfl rfl (by decide) dX4_readEnd_1 ?_
  refine j_getI hX hG fl_X4_90 (Or.inl rfl) (by decide) dX4_readEnd_4 ?_
  refine j_if_eq (tgt := 18) hX dX4_readEnd_7 (by decide) (fun h_7 => ?_) (fun h_7 => ?_)
  · skip
    refine j_iconst hX dX4_readEnd_18 ⟨by decide, by decide⟩ ?_
    refine j_goto (tgt := 23) hX dX4_readEnd_19 (by decide) ?_
    exact j_retZ hR dX4_readEnd_23 (by omega) (by first | exact ⟨LR.ok (by unfold pEnd; rw [if_pos (by omega)]) hz trivial, fr_0⟩ | exact ⟨LR.er (e := (1, s)) (by unfold pEnd; rw [if_neg (by omega)]) ⟨by simp [up], by simp [up]; omega⟩, fr_u (fr_u fr_0 (by decide)) (by decide)⟩ | (exfalso; omega))
  · skip
    refine j_al0 hX dX4_readEnd_10 rfl ?_
    refine j_iconst hX dX4_readEnd_11 ⟨by decide, by decide⟩ ?_
    refine j_cVI1 (ci := 4) hX hG lk_X4_79 (ok_X4_fail ) (by decide) rfl (Nat.le_of_ble_eq_true rfl) (Nat.le_of_ble_eq_true rfl) (Nat.le_of_ble_eq_true rfl) rfl dX4_readEnd_12 (fun x_12 V_12 h_12 => ?_)
    obtain ⟨e_12, e2_12⟩ := h_12; subst e_12; subst e2_12
    refine j_if_eq (tgt := 22) hX dX4_readEnd_15 (by decide) (fun h_15 => ?_) (fun h_15 => ?_)
    · skip
      refine j_iconst hX dX4_readEnd_22 ⟨by decide, by decide⟩ ?_
      exact j_retZ hR dX4_readEnd_23 (by omega) (by first | exact ⟨LR.ok (by unfold pEnd; rw [if_pos (by omega)]) hz trivial, fr_0⟩ | exact ⟨LR.er (e := (1, s)) (by unfold pEnd; rw [if_neg (by omega)]) ⟨by simp [up], by simp [up]; omega⟩, fr_u (fr_u fr_0 (by decide)) (by decide)⟩ | (exfalso; omega))
    · skip
      refine j_iconst hX dX4_readEnd_18 ⟨by decide, by decide⟩ ?_
      refine j_goto (tgt := 23) hX dX4_readEnd_19 (by decide) ?_
      exact j_retZ hR dX4_readEnd_23 (by omega) (by first | exact ⟨LR.ok (by unfold pEnd; rw [if_pos (by omega)]) hz trivial, fr_0⟩ | exact ⟨LR.er (e := (1, s)) (by unfold pEnd; rw [if_neg (by omega)]) ⟨by simp [up], by simp [up]; omega⟩, fr_u (fr_u fr_0 (by decide)) (by decide)⟩ | (exfalso; omega))
set_option maxHeartbeats 4000000 in
theorem ok_X4_read {V : VV} (ht : TB V) (hv : 0 ≤ V 6 7 ∧ V 6 7 ≤ 800000) : Ok NC yX4_read cX4_read 1 (some .boolean) 7 149 [vA 1] V (pI (fun x9 V' => LR V' x9 (pAll (V 3) (V 2 1)) (fun r => GP V' 4 r.1 ∧ RO V' 6 ∧ TR V' 6 ∧ V' 6 3 = gO r.1 ∧ V' 6 4 = r.2.1 ∧ (∀ e, 0 ≤ e → e < V' 6 5 → V' 7 e = casT r.2.2.2.1 (tabF r.1 r.2.1 0 r.2.2.1) e) ∧ V' 10 1 = r.2.2.2.2.length ∧ (1 ≤ V' 10 1 ∧ V' 10 1 ≤ 16) ∧ ∀ k, 0 ≤ k → k < V' 10 1 → V' 11 k = r.2.2.2.2.getD k.toNat 0 ∧ 0 ≤ V' 11 k ∧ V' 11 k < gO r.1) ∧ V' 2 1 = V 2 1 ∧ fr [1, 2, 4, 5, 6, 7, 10, 11, 12] V V' ∧ V 6 7 ≤ V' 6 7 ∧ V' 6 7 ≤ V 6 7 + 22)) := by
  refine Ok.intro (by decide +kernel) (Nat.le_of_ble_eq_true rfl) (fun X G hX hG hR hoa hoV => ?_)
  show J X G 0 [vA 1] [] V
  refine j_al0 hX dX4_read_0 rfl ?_
  refine j_iconst hX dX4_read_1 ⟨by decide, by decide⟩ ?_
  refine j_putI hX hG fp_X4_47 rfl (by decide) dX4_read_2 ?_
  refine j_al0 hX dX4_read_5 rfl ?_
  refine j_iconst hX dX4_read_6 ⟨by decide, by decide⟩ ?_
  refine j_putI hX hG fp_X4_43 rfl (by decide) dX4_read_7 ?_
  refine j_al0 hX dX4_read_10 rfl ?_
  refine j_getR (q := 2) hX hG fl_X4_12 rfl rfl (by decide) dX4_read_11 ?_
  have ffU : fr [1] V (up (up V 1 5 0) 1 6 (-1)) := fr_u (fr_u fr_0 (by decide)) (by decide)
  have hu1 : (up (up V 1 5 0) 1 6 (-1)) 2 1 = V 2 1 := ffU 2 1 (by decide)
  have hu3 : (up (up V 1 5 0) 1 6 (-1)) 3 = V 3 := funext fun b => ffU 3 b (by decide)
  have htU : TB (up (up V 1 5 0) 1 6 (-1)) := TB_e ht hu1 hu3
  refine j_cVV0 (ci := 9) hX hG lk_X4_50 (ok_X9_rewind (by first | assumption | omega | decide)) (by decide) rfl (Nat.le_of_ble_eq_true rfl) (Nat.le_of_ble_eq_true rfl) (Nat.le_of_ble_eq_true rfl) rfl dX4_read_14 (fun V_14 h_14 => ?_)
  obtain ⟨tk_14, q_14, f_14⟩ := h_14
  rw [hu1, hu3] at tk_14
  rw [hu1] at q_14
  have eT_14 : V_14 3 = V 3 := (funext fun b => f_14 3 b (by decide)).trans hu3
  have l_14 : V_14 2 1 = V 2 1 := q_14
  have tb_14 : TB V_14 := TB_e ht l_14 eT_14
  have ff_14 : fr [1, 2, 4, 5, 6, 7, 10, 11, 12] V V_14 := fr_t (fr_w ffU (by decide)) (fr_w f_14 (by decide))
  have z_14 : V_14 1 5 = 0 ∧ V_14 1 6 = -1 := by rw [f_14 1 5 (by decide), f_14 1 6 (by decide)]; exact ⟨by simp [up], by simp [up]⟩
  have v_14 : V_14 6 7 = V 6 7 := by rw [f_14 6 7 (by decide)]; simp [up]
  refine j_al0 hX dX4_read_17 rfl ?_
  refine j_cVI0 (ci := 4) hX hG lk_X4_53 (ok_X4_readGroup (by first | assumption | omega | decide) (by first | assumption | omega | decide) (by first | assumption | omega | decide)) (by decide) rfl (Nat.le_of_ble_eq_true rfl) (Nat.le_of_ble_eq_true rfl) (Nat.le_of_ble_eq_true rfl) rfl dX4_read_18 (fun x_18 V_18 h_18 => ?_)
  obtain ⟨r_18, q_18, f_18⟩ := h_18
  rw [eT_14, l_14] at r_18
  have eT_18 : V_18 3 = V 3 := (funext fun b => f_18 3 b (by decide)).trans eT_14
  have l_18 : V_18 2 1 = V 2 1 := q_18.trans l_14
  have tb_18 : TB V_18 := TB_e ht l_18 eT_18
  have ff_18 : fr [1, 2, 4, 5, 6, 7, 10, 11, 12] V V_18 := fr_t (fr_w ff_14 (by decide)) (fr_w f_18 (by decide))
  have v_18 : V_18 6 7 = V 6 7 := (f_18 6 7 (by decide)).trans v_14
  refine j_if_eq (tgt := 63) hX dX4_read_21 (by decide) (fun h_21 => ?_) (fun h_21 => ?_)
  · skip
    refine j_iconst hX dX4_read_63 ⟨by decide, by decide⟩ ?_
    exact j_retZ hR dX4_read_64 (by omega) (by first | (obtain ⟨x, x1, x2⟩ := LR.f r_53 h_56; exact ⟨LR.er (e := x) (by unfold pAll; rw [sp_18, bi_ok, sp_25, bi_ok, sp_32, bi_ok, sp_39, bi_ok, sp_46, bi_ok, x1, bi_er]) x2, l_53, ff_53, by omega⟩) | (obtain ⟨x, x1, x2⟩ := LR.f r_46 h_49; exact ⟨LR.er (e := x) (by unfold pAll; rw [sp_18, bi_ok, sp_25, bi_ok, sp_32, bi_ok, sp_39, bi_ok, x1, bi_er]) x2, l_46, ff_46, by omega⟩) | (obtain ⟨x, x1, x2⟩ := LR.f r_39 h_42; exact ⟨LR.er (e := x) (by unfold pAll; rw [sp_18, bi_ok, sp_25, bi_ok, sp_32, bi_ok, x1, bi_er]) x2, l_39, ff_39, by omega⟩) | (obtain ⟨x, x1, x2⟩ := LR.f r_32 h_35; exact ⟨LR.er (e := x) (by unfold pAll; rw [sp_18, bi_ok, sp_25, bi_ok, x1, bi_er]) x2, l_32, ff_32, by omega⟩) | (obtain ⟨x, x1, x2⟩ := LR.f r_25 h_28; exact ⟨LR.er (e := x) (by unfold pAll; rw [sp_18, bi_ok, x1, bi_er]) x2, l_25, ff_25, by omega⟩) | (obtain ⟨x, x1, x2⟩ := LR.f r_18 h_21; exact ⟨LR.er (e := x) (by unfold pAll; rw [x1, bi_er]) x2, l_18, ff_18, by omega⟩) | (obtain ⟨u, sp_53, z_53, -⟩ := LR.t r_53 h_56; exact ⟨LR.ok (a := (a.1, b.1, c.1, d.1, e.1)) (by unfold pAll; rw [sp_18, bi_ok, sp_25, bi_ok, sp_32, bi_ok, sp_39, bi_ok, sp_46, bi_ok, sp_53, bi_ok]) z_53 ⟨gp_39.sm (fun b => by rw [f_53 4 b (by decide), f_46 4 b (by decide)]) (fun b => (f_53 5 b (by decide)).trans (f_46 5 b (by decide))), ro_39.sm (fun b => by rw [f_53 6 b (by decide), f_46 6 b (by decide)]), fun x h0 h1 => by rw [show V_53 (6 + 1) x = _ from f_53 7 x (by decide), f_46 7 x (by decide), f_53 6 3 (by decide), f_46 6 3 (by decide)]; exact tr_39 x h0 (by rw [f_53 6 5 (by decide), f_46 6 5 (by decide)] at h1; exact h1), by rw [f_53 6 3 (by decide), f_46 6 3 (by decide), h6_39 3 (by decide), e3_32], by rw [f_53 6 4 (by decide), f_46 6 4 (by decide), h6_39 4 (by decide), e4_32], fun x h0 h1 => by rw [f_53 6 5 (by decide), f_46 6 5 (by decide), h6_39 5 (by decide), e5_32] at h1; rw [f_53 7 x (by decide), f_46 7 x (by decide), hT_39 x]; exact casT_c (fun y => 0 ≤ y ∧ y < V_25 6 5) (fun y hy => by rw [hT_32 y hy.1 hy.2]) x ⟨h0, h1⟩, by rw [f_53 10 1 (by decide), n_46], by rw [f_53 10 1 (by decide)]; exact nb_46, fun k h0 h1 => by rw [f_53 10 1 (by decide)] at h1; rw [f_53 11 k (by decide)]; exact hR_46 k h0 h1⟩, l_53, ff_53, by omega⟩))
  · skip
    obtain ⟨a, sp_18, z_18, gp_18, tk_18⟩ := LR.t r_18 h_21
    refine j_al0 hX dX4_read_24 rfl ?_
    refine j_cVI0 (ci := 4) hX hG lk_X4_57 (ok_X4_readWidth (by first | assumption | omega | decide) (by first | assumption | omega | decide) (by first | assumption | omega | decide) (by first | assumption | omega | decide) (by first | assumption | omega | decide)) (by decide) rfl (Nat.le_of_ble_eq_true rfl) (Nat.le_of_ble_eq_true rfl) (Nat.le_of_ble_eq_true rfl) rfl dX4_read_25 (fun x_25 V_25 h_25 => ?_)
    obtain ⟨r_25, q_25, f_25, v_25, w_25⟩ := h_25
    rw [eT_18, l_18] at r_25
    have eT_25 : V_25 3 = V 3 := (funext fun b => f_25 3 b (by decide)).trans eT_18
    have l_25 : V_25 2 1 = V 2 1 := q_25.trans l_18
    have tb_25 : TB V_25 := TB_e ht l_25 eT_25
    have ff_25 : fr [1, 2, 4, 5, 6, 7, 10, 11, 12] V V_25 := fr_t (fr_w ff_18 (by decide)) (fr_w f_25 (by decide))
    refine j_if_eq (tgt := 63) hX dX4_read_28 (by decide) (fun h_28 => ?_) (fun h_28 => ?_)
    · skip
      refine j_iconst hX dX4_read_63 ⟨by decide, by decide⟩ ?_
      exact j_retZ hR dX4_read_64 (by omega) (by first | (obtain ⟨x, x1, x2⟩ := LR.f r_53 h_56; exact ⟨LR.er (e := x) (by unfold pAll; rw [sp_18, bi_ok, sp_25, bi_ok, sp_32, bi_ok, sp_39, bi_ok, sp_46, bi_ok, x1, bi_er]) x2, l_53, ff_53, by omega⟩) | (obtain ⟨x, x1, x2⟩ := LR.f r_46 h_49; exact ⟨LR.er (e := x) (by unfold pAll; rw [sp_18, bi_ok, sp_25, bi_ok, sp_32, bi_ok, sp_39, bi_ok, x1, bi_er]) x2, l_46, ff_46, by omega⟩) | (obtain ⟨x, x1, x2⟩ := LR.f r_39 h_42; exact ⟨LR.er (e := x) (by unfold pAll; rw [sp_18, bi_ok, sp_25, bi_ok, sp_32, bi_ok, x1, bi_er]) x2, l_39, ff_39, by omega⟩) | (obtain ⟨x, x1, x2⟩ := LR.f r_32 h_35; exact ⟨LR.er (e := x) (by unfold pAll; rw [sp_18, bi_ok, sp_25, bi_ok, x1, bi_er]) x2, l_32, ff_32, by omega⟩) | (obtain ⟨x, x1, x2⟩ := LR.f r_25 h_28; exact ⟨LR.er (e := x) (by unfold pAll; rw [sp_18, bi_ok, x1, bi_er]) x2, l_25, ff_25, by omega⟩) | (obtain ⟨x, x1, x2⟩ := LR.f r_18 h_21; exact ⟨LR.er (e := x) (by unfold pAll; rw [x1, bi_er]) x2, l_18, ff_18, by omega⟩) | (obtain ⟨u, sp_53, z_53, -⟩ := LR.t r_53 h_56; exact ⟨LR.ok (a := (a.1, b.1, c.1, d.1, e.1)) (by unfold pAll; rw [sp_18, bi_ok, sp_25, bi_ok, sp_32, bi_ok, sp_39, bi_ok, sp_46, bi_ok, sp_53, bi_ok]) z_53 ⟨gp_39.sm (fun b => by rw [f_53 4 b (by decide), f_46 4 b (by decide)]) (fun b => (f_53 5 b (by decide)).trans (f_46 5 b (by decide))), ro_39.sm (fun b => by rw [f_53 6 b (by decide), f_46 6 b (by decide)]), fun x h0 h1 => by rw [show V_53 (6 + 1) x = _ from f_53 7 x (by decide), f_46 7 x (by decide), f_53 6 3 (by decide), f_46 6 3 (by decide)]; exact tr_39 x h0 (by rw [f_53 6 5 (by decide), f_46 6 5 (by decide)] at h1; exact h1), by rw [f_53 6 3 (by decide), f_46 6 3 (by decide), h6_39 3 (by decide), e3_32], by rw [f_53 6 4 (by decide), f_46 6 4 (by decide), h6_39 4 (by decide), e4_32], fun x h0 h1 => by rw [f_53 6 5 (by decide), f_46 6 5 (by decide), h6_39 5 (by decide), e5_32] at h1; rw [f_53 7 x (by decide), f_46 7 x (by decide), hT_39 x]; exact casT_c (fun y => 0 ≤ y ∧ y < V_25 6 5) (fun y hy => by rw [hT_32 y hy.1 hy.2]) x ⟨h0, h1⟩, by rw [f_53 10 1 (by decide), n_46], by rw [f_53 10 1 (by decide)]; exact nb_46, fun k h0 h1 => by rw [f_53 10 1 (by decide)] at h1; rw [f_53 11 k (by decide)]; exact hR_46 k h0 h1⟩, l_53, ff_53, by omega⟩))
    · skip
      obtain ⟨b, sp_25, z_25, ro_25, e3_25, e4_25, t0_25, tk_25⟩ := LR.t r_25 h_28
      have gp_25 : GP V_25 4 a.1 := gp_18.sm (fun b => f_25 4 b (by decide)) (fun b => f_25 5 b (by decide))
      have rb_25 := ro_25.b
      have z0_25 : ∀ e, 0 ≤ e → e < V_25 6 5 → V_25 7 e = 0 := fun e h0 h1 => t0_25 e h0 (by omega)
      have hOa := gO_le gp_18.1
      have tr_25 : TR V_25 6 := fun e h0 h1 => by rw [show V_25 (6 + 1) e = 0 from z0_25 e h0 h1, e3_25]; omega
      refine j_al0 hX dX4_read_31 rfl ?_
      refine j_cVI0 (ci := 4) hX hG lk_X4_60 (ok_X4_readTerms (by first | assumption | omega | decide) (by first | assumption | omega | decide) (by first | assumption | omega | decide) (by first | assumption | omega | decide) (by first | assumption | omega | decide) (by first | assumption | omega | decide) (by first | assumption | omega | decide) (by first | assumption | omega | decide) (by first | assumption | omega | decide)) (by decide) rfl (Nat.le_of_ble_eq_true rfl) (Nat.le_of_ble_eq_true rfl) (Nat.le_of_ble_eq_true rfl) rfl dX4_read_32 (fun x_32 V_32 h_32 => ?_)
      obtain ⟨r_32, q_32, f_32, h6_32, v_32, w_32⟩ := h_32
      rw [eT_25, l_25] at r_32
      rw [e4_25] at r_32
      have eT_32 : V_32 3 = V 3 := (funext fun b => f_32 3 b (by decide)).trans eT_25
      have l_32 : V_32 2 1 = V 2 1 := q_32.trans l_25
      have tb_32 : TB V_32 := TB_e ht l_32 eT_32
      have ff_32 : fr [1, 2, 4, 5, 6, 7, 10, 11, 12] V V_32 := fr_t (fr_w ff_25 (by decide)) (fr_w f_32 (by decide))
      refine j_if_eq (tgt := 63) hX dX4_read_35 (by decide) (fun h_35 => ?_) (fun h_35 => ?_)
      · skip
        refine j_iconst hX dX4_read_63 ⟨by decide, by decide⟩ ?_
        exact j_retZ hR dX4_read_64 (by omega) (by first | (obtain ⟨x, x1, x2⟩ := LR.f r_53 h_56; exact ⟨LR.er (e := x) (by unfold pAll; rw [sp_18, bi_ok, sp_25, bi_ok, sp_32, bi_ok, sp_39, bi_ok, sp_46, bi_ok, x1, bi_er]) x2, l_53, ff_53, by omega⟩) | (obtain ⟨x, x1, x2⟩ := LR.f r_46 h_49; exact ⟨LR.er (e := x) (by unfold pAll; rw [sp_18, bi_ok, sp_25, bi_ok, sp_32, bi_ok, sp_39, bi_ok, x1, bi_er]) x2, l_46, ff_46, by omega⟩) | (obtain ⟨x, x1, x2⟩ := LR.f r_39 h_42; exact ⟨LR.er (e := x) (by unfold pAll; rw [sp_18, bi_ok, sp_25, bi_ok, sp_32, bi_ok, x1, bi_er]) x2, l_39, ff_39, by omega⟩) | (obtain ⟨x, x1, x2⟩ := LR.f r_32 h_35; exact ⟨LR.er (e := x) (by unfold pAll; rw [sp_18, bi_ok, sp_25, bi_ok, x1, bi_er]) x2, l_32, ff_32, by omega⟩) | (obtain ⟨x, x1, x2⟩ := LR.f r_25 h_28; exact ⟨LR.er (e := x) (by unfold pAll; rw [sp_18, bi_ok, x1, bi_er]) x2, l_25, ff_25, by omega⟩) | (obtain ⟨x, x1, x2⟩ := LR.f r_18 h_21; exact ⟨LR.er (e := x) (by unfold pAll; rw [x1, bi_er]) x2, l_18, ff_18, by omega⟩) | (obtain ⟨u, sp_53, z_53, -⟩ := LR.t r_53 h_56; exact ⟨LR.ok (a := (a.1, b.1, c.1, d.1, e.1)) (by unfold pAll; rw [sp_18, bi_ok, sp_25, bi_ok, sp_32, bi_ok, sp_39, bi_ok, sp_46, bi_ok, sp_53, bi_ok]) z_53 ⟨gp_39.sm (fun b => by rw [f_53 4 b (by decide), f_46 4 b (by decide)]) (fun b => (f_53 5 b (by decide)).trans (f_46 5 b (by decide))), ro_39.sm (fun b => by rw [f_53 6 b (by decide), f_46 6 b (by decide)]), fun x h0 h1 => by rw [show V_53 (6 + 1) x = _ from f_53 7 x (by decide), f_46 7 x (by decide), f_53 6 3 (by decide), f_46 6 3 (by decide)]; exact tr_39 x h0 (by rw [f_53 6 5 (by decide), f_46 6 5 (by decide)] at h1; exact h1), by rw [f_53 6 3 (by decide), f_46 6 3 (by decide), h6_39 3 (by decide), e3_32], by rw [f_53 6 4 (by decide), f_46 6 4 (by decide), h6_39 4 (by decide), e4_32], fun x h0 h1 => by rw [f_53 6 5 (by decide), f_46 6 5 (by decide), h6_39 5 (by decide), e5_32] at h1; rw [f_53 7 x (by decide), f_46 7 x (by decide), hT_39 x]; exact casT_c (fun y => 0 ≤ y ∧ y < V_25 6 5) (fun y hy => by rw [hT_32 y hy.1 hy.2]) x ⟨h0, h1⟩, by rw [f_53 10 1 (by decide), n_46], by rw [f_53 10 1 (by decide)]; exact nb_46, fun k h0 h1 => by rw [f_53 10 1 (by decide)] at h1; rw [f_53 11 k (by decide)]; exact hR_46 k h0 h1⟩, l_53, ff_53, by omega⟩))
      · skip
        obtain ⟨c, sp_32, z_32, tk_32, tr_32, hT_32⟩ := LR.t r_32 h_35
        have gp_32 : GP V_32 4 a.1 := gp_25.sm (fun b => f_32 4 b (by decide)) (fun b => f_32 5 b (by decide))
        have ro_32 : RO V_32 6 := ro_25.sm6 h6_32
        have e3_32 : V_32 6 3 = gO a.1 := (h6_32 3 (by decide)).trans e3_25
        have e4_32 : V_32 6 4 = b.1 := (h6_32 4 (by decide)).trans e4_25
        have e5_32 : V_32 6 5 = V_25 6 5 := h6_32 5 (by decide)
        refine j_al0 hX dX4_read_38 rfl ?_
        refine j_cVI0 (ci := 4) hX hG lk_X4_63 (ok_X4_readCases (by first | assumption | omega | decide) (by first | assumption | omega | decide) (by first | assumption | omega | decide) (by first | assumption | omega | decide) (by first | assumption | omega | decide) (by first | assumption | omega | decide) (by first | assumption | omega | decide) (by first | assumption | omega | decide)) (by decide) rfl (Nat.le_of_ble_eq_true rfl) (Nat.le_of_ble_eq_true rfl) (Nat.le_of_ble_eq_true rfl) rfl dX4_read_39 (fun x_39 V_39 h_39 => ?_)
        obtain ⟨r_39, q_39, f_39, h6_39, v_39, w_39⟩ := h_39
        rw [eT_32, l_32] at r_39
        rw [e4_32] at r_39
        have eT_39 : V_39 3 = V 3 := (funext fun b => f_39 3 b (by decide)).trans eT_32
        have l_39 : V_39 2 1 = V 2 1 := q_39.trans l_32
        have tb_39 : TB V_39 := TB_e ht l_39 eT_39
        have ff_39 : fr [1, 2, 4, 5, 6, 7, 10, 11, 12] V V_39 := fr_t (fr_w ff_32 (by decide)) (fr_w f_39 (by decide))
        refine j_if_eq (tgt := 63) hX dX4_read_42 (by decide) (fun h_42 => ?_) (fun h_42 => ?_)
        · skip
          refine j_iconst hX dX4_read_63 ⟨by decide, by decide⟩ ?_
          exact j_retZ hR dX4_read_64 (by omega) (by first | (obtain ⟨x, x1, x2⟩ := LR.f r_53 h_56; exact ⟨LR.er (e := x) (by unfold pAll; rw [sp_18, bi_ok, sp_25, bi_ok, sp_32, bi_ok, sp_39, bi_ok, sp_46, bi_ok, x1, bi_er]) x2, l_53, ff_53, by omega⟩) | (obtain ⟨x, x1, x2⟩ := LR.f r_46 h_49; exact ⟨LR.er (e := x) (by unfold pAll; rw [sp_18, bi_ok, sp_25, bi_ok, sp_32, bi_ok, sp_39, bi_ok, x1, bi_er]) x2, l_46, ff_46, by omega⟩) | (obtain ⟨x, x1, x2⟩ := LR.f r_39 h_42; exact ⟨LR.er (e := x) (by unfold pAll; rw [sp_18, bi_ok, sp_25, bi_ok, sp_32, bi_ok, x1, bi_er]) x2, l_39, ff_39, by omega⟩) | (obtain ⟨x, x1, x2⟩ := LR.f r_32 h_35; exact ⟨LR.er (e := x) (by unfold pAll; rw [sp_18, bi_ok, sp_25, bi_ok, x1, bi_er]) x2, l_32, ff_32, by omega⟩) | (obtain ⟨x, x1, x2⟩ := LR.f r_25 h_28; exact ⟨LR.er (e := x) (by unfold pAll; rw [sp_18, bi_ok, x1, bi_er]) x2, l_25, ff_25, by omega⟩) | (obtain ⟨x, x1, x2⟩ := LR.f r_18 h_21; exact ⟨LR.er (e := x) (by unfold pAll; rw [x1, bi_er]) x2, l_18, ff_18, by omega⟩) | (obtain ⟨u, sp_53, z_53, -⟩ := LR.t r_53 h_56; exact ⟨LR.ok (a := (a.1, b.1, c.1, d.1, e.1)) (by unfold pAll; rw [sp_18, bi_ok, sp_25, bi_ok, sp_32, bi_ok, sp_39, bi_ok, sp_46, bi_ok, sp_53, bi_ok]) z_53 ⟨gp_39.sm (fun b => by rw [f_53 4 b (by decide), f_46 4 b (by decide)]) (fun b => (f_53 5 b (by decide)).trans (f_46 5 b (by decide))), ro_39.sm (fun b => by rw [f_53 6 b (by decide), f_46 6 b (by decide)]), fun x h0 h1 => by rw [show V_53 (6 + 1) x = _ from f_53 7 x (by decide), f_46 7 x (by decide), f_53 6 3 (by decide), f_46 6 3 (by decide)]; exact tr_39 x h0 (by rw [f_53 6 5 (by decide), f_46 6 5 (by decide)] at h1; exact h1), by rw [f_53 6 3 (by decide), f_46 6 3 (by decide), h6_39 3 (by decide), e3_32], by rw [f_53 6 4 (by decide), f_46 6 4 (by decide), h6_39 4 (by decide), e4_32], fun x h0 h1 => by rw [f_53 6 5 (by decide), f_46 6 5 (by decide), h6_39 5 (by decide), e5_32] at h1; rw [f_53 7 x (by decide), f_46 7 x (by decide), hT_39 x]; exact casT_c (fun y => 0 ≤ y ∧ y < V_25 6 5) (fun y hy => by rw [hT_32 y hy.1 hy.2]) x ⟨h0, h1⟩, by rw [f_53 10 1 (by decide), n_46], by rw [f_53 10 1 (by decide)]; exact nb_46, fun k h0 h1 => by rw [f_53 10 1 (by decide)] at h1; rw [f_53 11 k (by decide)]; exact hR_46 k h0 h1⟩, l_53, ff_53, by omega⟩))
        · skip
          obtain ⟨d, sp_39, z_39, tk_39, tr_39, hT_39⟩ := LR.t r_39 h_42
          have gp_39 : GP V_39 4 a.1 := gp_32.sm (fun b => f_39 4 b (by decide)) (fun b => f_39 5 b (by decide))
          have ro_39 : RO V_39 6 := ro_32.sm6 h6_39
          refine j_al0 hX dX4_read_45 rfl ?_
          refine j_cVI0 (ci := 4) hX hG lk_X4_66 (ok_X4_readRing (by first | assumption | omega | decide) (by first | assumption | omega | decide) (by first | assumption | omega | decide) (by first | assumption | omega | decide)) (by decide) rfl (Nat.le_of_ble_eq_true rfl) (Nat.le_of_ble_eq_true rfl) (Nat.le_of_ble_eq_true rfl) rfl dX4_read_46 (fun x_46 V_46 h_46 => ?_)
          obtain ⟨r_46, q_46, f_46⟩ := h_46
          rw [eT_39, l_39] at r_46
          have eT_46 : V_46 3 = V 3 := (funext fun b => f_46 3 b (by decide)).trans eT_39
          have l_46 : V_46 2 1 = V 2 1 := q_46.trans l_39
          have tb_46 : TB V_46 := TB_e ht l_46 eT_46
          have ff_46 : fr [1, 2, 4, 5, 6, 7, 10, 11, 12] V V_46 := fr_t (fr_w ff_39 (by decide)) (fr_w f_46 (by decide))
          have v_46 : V_46 6 7 = V_39 6 7 := f_46 6 7 (by decide)
          refine j_if_eq (tgt := 63) hX dX4_read_49 (by decide) (fun h_49 => ?_) (fun h_49 => ?_)
          · skip
            refine j_iconst hX dX4_read_63 ⟨by decide, by decide⟩ ?_
            exact j_retZ hR dX4_read_64 (by omega) (by first | (obtain ⟨x, x1, x2⟩ := LR.f r_53 h_56; exact ⟨LR.er (e := x) (by unfold pAll; rw [sp_18, bi_ok, sp_25, bi_ok, sp_32, bi_ok, sp_39, bi_ok, sp_46, bi_ok, x1, bi_er]) x2, l_53, ff_53, by omega⟩) | (obtain ⟨x, x1, x2⟩ := LR.f r_46 h_49; exact ⟨LR.er (e := x) (by unfold pAll; rw [sp_18, bi_ok, sp_25, bi_ok, sp_32, bi_ok, sp_39, bi_ok, x1, bi_er]) x2, l_46, ff_46, by omega⟩) | (obtain ⟨x, x1, x2⟩ := LR.f r_39 h_42; exact ⟨LR.er (e := x) (by unfold pAll; rw [sp_18, bi_ok, sp_25, bi_ok, sp_32, bi_ok, x1, bi_er]) x2, l_39, ff_39, by omega⟩) | (obtain ⟨x, x1, x2⟩ := LR.f r_32 h_35; exact ⟨LR.er (e := x) (by unfold pAll; rw [sp_18, bi_ok, sp_25, bi_ok, x1, bi_er]) x2, l_32, ff_32, by omega⟩) | (obtain ⟨x, x1, x2⟩ := LR.f r_25 h_28; exact ⟨LR.er (e := x) (by unfold pAll; rw [sp_18, bi_ok, x1, bi_er]) x2, l_25, ff_25, by omega⟩) | (obtain ⟨x, x1, x2⟩ := LR.f r_18 h_21; exact ⟨LR.er (e := x) (by unfold pAll; rw [x1, bi_er]) x2, l_18, ff_18, by omega⟩) | (obtain ⟨u, sp_53, z_53, -⟩ := LR.t r_53 h_56; exact ⟨LR.ok (a := (a.1, b.1, c.1, d.1, e.1)) (by unfold pAll; rw [sp_18, bi_ok, sp_25, bi_ok, sp_32, bi_ok, sp_39, bi_ok, sp_46, bi_ok, sp_53, bi_ok]) z_53 ⟨gp_39.sm (fun b => by rw [f_53 4 b (by decide), f_46 4 b (by decide)]) (fun b => (f_53 5 b (by decide)).trans (f_46 5 b (by decide))), ro_39.sm (fun b => by rw [f_53 6 b (by decide), f_46 6 b (by decide)]), fun x h0 h1 => by rw [show V_53 (6 + 1) x = _ from f_53 7 x (by decide), f_46 7 x (by decide), f_53 6 3 (by decide), f_46 6 3 (by decide)]; exact tr_39 x h0 (by rw [f_53 6 5 (by decide), f_46 6 5 (by decide)] at h1; exact h1), by rw [f_53 6 3 (by decide), f_46 6 3 (by decide), h6_39 3 (by decide), e3_32], by rw [f_53 6 4 (by decide), f_46 6 4 (by decide), h6_39 4 (by decide), e4_32], fun x h0 h1 => by rw [f_53 6 5 (by decide), f_46 6 5 (by decide), h6_39 5 (by decide), e5_32] at h1; rw [f_53 7 x (by decide), f_46 7 x (by decide), hT_39 x]; exact casT_c (fun y => 0 ≤ y ∧ y < V_25 6 5) (fun y hy => by rw [hT_32 y hy.1 hy.2]) x ⟨h0, h1⟩, by rw [f_53 10 1 (by decide), n_46], by rw [f_53 10 1 (by decide)]; exact nb_46, fun k h0 h1 => by rw [f_53 10 1 (by decide)] at h1; rw [f_53 11 k (by decide)]; exact hR_46 k h0 h1⟩, l_53, ff_53, by omega⟩))
          · skip
            obtain ⟨e, sp_46, z_46, tk_46, n_46, nb_46, hR_46⟩ := LR.t r_46 h_49
            refine j_al0 hX dX4_read_52 rfl ?_
            refine j_cVI0 (ci := 4) hX hG lk_X4_69 (ok_X4_readEnd (by first | assumption | omega | decide) (by first | assumption | omega | decide)) (by decide) rfl (Nat.le_of_ble_eq_true rfl) (Nat.le_of_ble_eq_true rfl) (Nat.le_of_ble_eq_true rfl) rfl dX4_read_53 (fun x_53 V_53 h_53 => ?_)
            obtain ⟨r_53, f_53⟩ := h_53
            have q_53 : V_53 2 1 = V_46 2 1 := f_53 2 1 (by decide)
            rw [eT_46, l_46] at r_53
            have eT_53 : V_53 3 = V 3 := (funext fun b => f_53 3 b (by decide)).trans eT_46
            have l_53 : V_53 2 1 = V 2 1 := q_53.trans l_46
            have tb_53 : TB V_53 := TB_e ht l_53 eT_53
            have ff_53 : fr [1, 2, 4, 5, 6, 7, 10, 11, 12] V V_53 := fr_t (fr_w ff_46 (by decide)) (fr_w f_53 (by decide))
            have tk_53 := TK.sm tk_46 (fun b => f_53 2 b (by decide)) (fun b => f_53 3 b (by decide))
            have v_53 : V_53 6 7 = V_39 6 7 := (f_53 6 7 (by decide)).trans v_46
            refine j_if_eq (tgt := 63) hX dX4_read_56 (by decide) (fun h_56 => ?_) (fun h_56 => ?_)
            · skip
              refine j_iconst hX dX4_read_63 ⟨by decide, by decide⟩ ?_
              exact j_retZ hR dX4_read_64 (by omega) (by first | (obtain ⟨x, x1, x2⟩ := LR.f r_53 h_56; exact ⟨LR.er (e := x) (by unfold pAll; rw [sp_18, bi_ok, sp_25, bi_ok, sp_32, bi_ok, sp_39, bi_ok, sp_46, bi_ok, x1, bi_er]) x2, l_53, ff_53, by omega⟩) | (obtain ⟨x, x1, x2⟩ := LR.f r_46 h_49; exact ⟨LR.er (e := x) (by unfold pAll; rw [sp_18, bi_ok, sp_25, bi_ok, sp_32, bi_ok, sp_39, bi_ok, x1, bi_er]) x2, l_46, ff_46, by omega⟩) | (obtain ⟨x, x1, x2⟩ := LR.f r_39 h_42; exact ⟨LR.er (e := x) (by unfold pAll; rw [sp_18, bi_ok, sp_25, bi_ok, sp_32, bi_ok, x1, bi_er]) x2, l_39, ff_39, by omega⟩) | (obtain ⟨x, x1, x2⟩ := LR.f r_32 h_35; exact ⟨LR.er (e := x) (by unfold pAll; rw [sp_18, bi_ok, sp_25, bi_ok, x1, bi_er]) x2, l_32, ff_32, by omega⟩) | (obtain ⟨x, x1, x2⟩ := LR.f r_25 h_28; exact ⟨LR.er (e := x) (by unfold pAll; rw [sp_18, bi_ok, x1, bi_er]) x2, l_25, ff_25, by omega⟩) | (obtain ⟨x, x1, x2⟩ := LR.f r_18 h_21; exact ⟨LR.er (e := x) (by unfold pAll; rw [x1, bi_er]) x2, l_18, ff_18, by omega⟩) | (obtain ⟨u, sp_53, z_53, -⟩ := LR.t r_53 h_56; exact ⟨LR.ok (a := (a.1, b.1, c.1, d.1, e.1)) (by unfold pAll; rw [sp_18, bi_ok, sp_25, bi_ok, sp_32, bi_ok, sp_39, bi_ok, sp_46, bi_ok, sp_53, bi_ok]) z_53 ⟨gp_39.sm (fun b => by rw [f_53 4 b (by decide), f_46 4 b (by decide)]) (fun b => (f_53 5 b (by decide)).trans (f_46 5 b (by decide))), ro_39.sm (fun b => by rw [f_53 6 b (by decide), f_46 6 b (by decide)]), fun x h0 h1 => by rw [show V_53 (6 + 1) x = _ from f_53 7 x (by decide), f_46 7 x (by decide), f_53 6 3 (by decide), f_46 6 3 (by decide)]; exact tr_39 x h0 (by rw [f_53 6 5 (by decide), f_46 6 5 (by decide)] at h1; exact h1), by rw [f_53 6 3 (by decide), f_46 6 3 (by decide), h6_39 3 (by decide), e3_32], by rw [f_53 6 4 (by decide), f_46 6 4 (by decide), h6_39 4 (by decide), e4_32], fun x h0 h1 => by rw [f_53 6 5 (by decide), f_46 6 5 (by decide), h6_39 5 (by decide), e5_32] at h1; rw [f_53 7 x (by decide), f_46 7 x (by decide), hT_39 x]; exact casT_c (fun y => 0 ≤ y ∧ y < V_25 6 5) (fun y hy => by rw [hT_32 y hy.1 hy.2]) x ⟨h0, h1⟩, by rw [f_53 10 1 (by decide), n_46], by rw [f_53 10 1 (by decide)]; exact nb_46, fun k h0 h1 => by rw [f_53 10 1 (by decide)] at h1; rw [f_53 11 k (by decide)]; exact hR_46 k h0 h1⟩, l_53, ff_53, by omega⟩))
            · skip
              refine j_iconst hX dX4_read_59 ⟨by decide, by decide⟩ ?_
              refine j_goto (tgt := 64) hX dX4_read_60 (by decide) ?_
              exact j_retZ hR dX4_read_64 (by omega) (by first | (obtain ⟨x, x1, x2⟩ := LR.f r_53 h_56; exact ⟨LR.er (e := x) (by unfold pAll; rw [sp_18, bi_ok, sp_25, bi_ok, sp_32, bi_ok, sp_39, bi_ok, sp_46, bi_ok, x1, bi_er]) x2, l_53, ff_53, by omega⟩) | (obtain ⟨x, x1, x2⟩ := LR.f r_46 h_49; exact ⟨LR.er (e := x) (by unfold pAll; rw [sp_18, bi_ok, sp_25, bi_ok, sp_32, bi_ok, sp_39, bi_ok, x1, bi_er]) x2, l_46, ff_46, by omega⟩) | (obtain ⟨x, x1, x2⟩ := LR.f r_39 h_42; exact ⟨LR.er (e := x) (by unfold pAll; rw [sp_18, bi_ok, sp_25, bi_ok, sp_32, bi_ok, x1, bi_er]) x2, l_39, ff_39, by omega⟩) | (obtain ⟨x, x1, x2⟩ := LR.f r_32 h_35; exact ⟨LR.er (e := x) (by unfold pAll; rw [sp_18, bi_ok, sp_25, bi_ok, x1, bi_er]) x2, l_32, ff_32, by omega⟩) | (obtain ⟨x, x1, x2⟩ := LR.f r_25 h_28; exact ⟨LR.er (e := x) (by unfold pAll; rw [sp_18, bi_ok, x1, bi_er]) x2, l_25, ff_25, by omega⟩) | (obtain ⟨x, x1, x2⟩ := LR.f r_18 h_21; exact ⟨LR.er (e := x) (by unfold pAll; rw [x1, bi_er]) x2, l_18, ff_18, by omega⟩) | (obtain ⟨u, sp_53, z_53, -⟩ := LR.t r_53 h_56; exact ⟨LR.ok (a := (a.1, b.1, c.1, d.1, e.1)) (by unfold pAll; rw [sp_18, bi_ok, sp_25, bi_ok, sp_32, bi_ok, sp_39, bi_ok, sp_46, bi_ok, sp_53, bi_ok]) z_53 ⟨gp_39.sm (fun b => by rw [f_53 4 b (by decide), f_46 4 b (by decide)]) (fun b => (f_53 5 b (by decide)).trans (f_46 5 b (by decide))), ro_39.sm (fun b => by rw [f_53 6 b (by decide), f_46 6 b (by decide)]), fun x h0 h1 => by rw [show V_53 (6 + 1) x = _ from f_53 7 x (by decide), f_46 7 x (by decide), f_53 6 3 (by decide), f_46 6 3 (by decide)]; exact tr_39 x h0 (by rw [f_53 6 5 (by decide), f_46 6 5 (by decide)] at h1; exact h1), by rw [f_53 6 3 (by decide), f_46 6 3 (by decide), h6_39 3 (by decide), e3_32], by rw [f_53 6 4 (by decide), f_46 6 4 (by decide), h6_39 4 (by decide), e4_32], fun x h0 h1 => by rw [f_53 6 5 (by decide), f_46 6 5 (by decide), h6_39 5 (by decide), e5_32] at h1; rw [f_53 7 x (by decide), f_46 7 x (by decide), hT_39 x]; exact casT_c (fun y => 0 ≤ y ∧ y < V_25 6 5) (fun y hy => by rw [hT_32 y hy.1 hy.2]) x ⟨h0, h1⟩, by rw [f_53 10 1 (by decide), n_46], by rw [f_53 10 1 (by decide)]; exact nb_46, fun k h0 h1 => by rw [f_53 10 1 (by decide)] at h1; rw [f_53 11 k (by decide)]; exact hR_46 k h0 h1⟩, l_53, ff_53, by omega⟩))
