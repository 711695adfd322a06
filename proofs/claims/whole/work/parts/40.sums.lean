section PAT13
variable {X : Cx} {own : String} {cc : ByteArray} {nL fr lo nx : Nat} {G : GS} {pc : Nat} {ls st : List MV} {V : VV}
theorem j_ll13 {a0 a1 a2 a3 a4 a5 a6 a7 a8 a9 a10 a11 a12 : MV} {x : Int} (hX : Good X own cc nL fr lo) (hd : decode cc pc = .ok (.lload 13, 2)) (kk : J X G (pc + 2) (a0 :: a1 :: a2 :: a3 :: a4 :: a5 :: a6 :: a7 :: a8 :: a9 :: a10 :: a11 :: a12 :: vL x :: ls) (vL x :: st) V) : J X G pc (a0 :: a1 :: a2 :: a3 :: a4 :: a5 :: a6 :: a7 :: a8 :: a9 :: a10 :: a11 :: a12 :: vL x :: ls) st V := j_lload (i := 13) hX hd rfl kk
theorem j_fg13 {a0 a1 a2 a3 a4 a5 a6 a7 a8 a9 a10 a11 a12 : MV} {b : MV} (kk : J X G pc (a0 :: a1 :: a2 :: a3 :: a4 :: a5 :: a6 :: a7 :: a8 :: a9 :: a10 :: a11 :: a12 :: vU :: ls) st V) : J X G pc (a0 :: a1 :: a2 :: a3 :: a4 :: a5 :: a6 :: a7 :: a8 :: a9 :: a10 :: a11 :: a12 :: b :: ls) st V := j_fg 13 kk
theorem j_ls13 {a0 a1 a2 a3 a4 a5 a6 a7 a8 a9 a10 a11 a12 : MV} {b b2 : MV} {x : Int} (hX : Good X own cc nL fr lo) (hd : decode cc pc = .ok (.lstore 13, 2)) (hc : c1 a12 = true) (kk : J X G (pc + 2) (a0 :: a1 :: a2 :: a3 :: a4 :: a5 :: a6 :: a7 :: a8 :: a9 :: a10 :: a11 :: a12 :: vL x :: vU :: ls) st V) : J X G pc (a0 :: a1 :: a2 :: a3 :: a4 :: a5 :: a6 :: a7 :: a8 :: a9 :: a10 :: a11 :: a12 :: b :: b2 :: ls) (vL x :: st) V := j_lstore (i := 13) hX hd (by simp only [List.length_cons]; omega) (st_hp rfl hc) kk
theorem j_fg14 {a0 a1 a2 a3 a4 a5 a6 a7 a8 a9 a10 a11 a12 a13 : MV} {b : MV} (kk : J X G pc (a0 :: a1 :: a2 :: a3 :: a4 :: a5 :: a6 :: a7 :: a8 :: a9 :: a10 :: a11 :: a12 :: a13 :: vU :: ls) st V) : J X G pc (a0 :: a1 :: a2 :: a3 :: a4 :: a5 :: a6 :: a7 :: a8 :: a9 :: a10 :: a11 :: a12 :: a13 :: b :: ls) st V := j_fg 14 kk
end PAT13
theorem val_o {k t c T B : Int} (hk : 0 ≤ k ∧ k < 16) (hc : 1 ≤ c) (hc2 : c ≤ 14348907) (ht : ab t ≤ k * 6561 * c) (hv : ab T ≤ 6561 ∧ 1 ≤ B ∧ B ≤ 6561) :
    (-10000000000000000 ≤ t * B ∧ t * B ≤ 10000000000000000) ∧ (-100000000000 ≤ T * c ∧ T * c ≤ 100000000000) ∧ (1 ≤ c * B ∧ c * B ≤ 100000000000) := by
  have h1 : k * 6561 * c ≤ 98415 * 14348907 := Int.mul_le_mul (by omega) hc2 (by omega) (by omega)
  have h2 := ab_mul t B
  have h3 := ab_mul T c
  have e1 : ab B = B := by rcases ab_d B with q | q <;> omega
  have e2 : ab c = c := by rcases ab_d c with q | q <;> omega
  have h4 : ab t * ab B ≤ 98415 * 14348907 * 6561 := Int.mul_le_mul (by omega) (by omega) (ab_nn _) (by decide)
  have h5 : ab T * ab c ≤ 6561 * 14348907 := Int.mul_le_mul hv.1 (by omega) (ab_nn _) (by decide)
  have h6 : c * B ≤ 14348907 * 6561 := Int.mul_le_mul hc2 hv.2.2 (by omega) (by decide)
  have h7 : 1 * 1 ≤ c * B := Int.mul_le_mul hc hv.2.1 (by decide) (by omega)
  rcases ab_d (t * B) with q | q <;> rcases ab_d (T * c) with z | z <;> omega
set_option maxHeartbeats 4000000 in
theorem ok_X1_writeBasis {V : VV} (hg : 2 ≤ V 44 5 ∧ V 44 5 ≤ 6) (hnb : ∀ x, 0 ≤ x → x < V 44 5 → (rwV V) x x ≠ 0 → NB (V 44 5) 6561 ((rwV V) x)) : Ok NC yX1_writeBasis cX1_writeBasis 3 none 3 79 [vA 44] V (pV (fun V' => BAS (V 44 5) (rwV V) (V' 44 6) (fun d x => V' 47 (d * 6 + x)) (fun d x => V' 48 (d * 6 + x)) ∧ (∀ b, b ≠ 6 → V' 44 b = V 44 b) ∧ fr [44, 47, 48] V V')) := by
  refine Ok.intro (by decide +kernel) (Nat.le_of_ble_eq_true rfl) (fun X G hX hG hR hoa hoV => ?_)
  show J X G 0 [vA 44, vU, vU] [] V
  refine j_al0 hX dX1_writeBasis_0 rfl ?_
  refine j_iconst hX dX1_writeBasis_1 ⟨by decide, by decide⟩ ?_
  refine j_putI hX hG fp_X1_111 rfl (by decide) dX1_writeBasis_2 ?_
  refine j_iconst hX dX1_writeBasis_5 ⟨by decide, by decide⟩ ?_
  refine j_is1 hX dX1_writeBasis_6 rfl ?_
  have lp_7 : ∀ (f9 : Nat) (f : Int) (W : VV), (0 ≤ f ∧ f ≤ V 44 5) → (fr [44, 47, 48] V W) → (∀ b, b ≠ 6 → W 44 b = V 44 b) → (W 44 6 = cnF (rwV V) f) → (∀ j, 0 ≤ j → j < f → (rwV V) j j = 0 → BROW (rwV V) j (fun y => W 47 (cnF (rwV V) j * 6 + y)) (fun y => W 48 (cnF (rwV V) j * 6 + y)) (V 44 5)) → ((V 44 5 - f).toNat) < f9 → J X G 7 [vA 44, vI f, vU] [] W := by
    intro f9
    induction f9 with
    | zero => intro f W _ _ _ _ _ hm; exact absurd hm (Nat.not_lt_zero _)
    | succ f9 ih_7 =>
      intro f W hf hs h6 hd hB hm
      refine j_il1 hX dX1_writeBasis_7 ?_
      refine j_al0 hX dX1_writeBasis_8 rfl ?_
      refine j_getI hX hG fl_X1_36 (Or.inl rfl) (by decide) dX1_writeBasis_9 ?_
      refine j_icmp_ge (tgt := 100) hX dX1_writeBasis_12 (by decide) (fun h_12 => ?_) (fun h_12 => ?_)
      · skip
        exact j_ret hR dX1_writeBasis_100 ⟨⟨by have e : f = V 44 5 := (by have := h6 5 (by decide); omega); rw [hd, e], fun j j0 j1 j2 => hB j j0 (by have := h6 5 (by decide); omega) j2⟩, h6, hs⟩
      · skip
        have q45 : ∀ i, W 45 i = V 45 i := fun i => hs 45 i (by decide)
        have q5 : W 44 5 = V 44 5 := h6 5 (by decide)
        refine j_al0 hX dX1_writeBasis_15 rfl ?_
        refine j_il1 hX dX1_writeBasis_16 ?_
        refine j_pVI1 (ci := 1) hX hG lk_X1_53 (ok_X1_isBound (by omega)) (by decide) rfl (Nat.le_of_ble_eq_true rfl) (Nat.le_of_ble_eq_true rfl) (Nat.le_of_ble_eq_true rfl) rfl dX1_writeBasis_17 ?_
        refine j_ifz_ne (tgt := 94) hX dX1_writeBasis_20 (by decide) (fun h_20 => ?_) (fun h_20 => ?_)
        · skip
          try (have hfb : ¬ (rwV V) f f = 0 := by show ¬ V 45 (f * 6 + f) = 0; rw [← q45]; exact h_20)
          refine j_inc1 hX dX1_writeBasis_94 rfl (by omega) ?_
          refine j_goto (tgt := 7) hX dX1_writeBasis_97 (by decide) ?_
          exact ih_7 _ _ (by omega) (by first | exact fr_u hs (by decide) | exact hs) (by first | exact (fun b hb => by rw [up_n _ (by omega)]; exact h6 b hb) | exact h6) (by rw [cnF_S (by omega)]; first | rw [up_s, if_pos hfz, hd] | (rw [if_neg hfb, Int.add_zero]; exact hd)) (by first | exact (fun j j0 j1 j2 => BROW_e (lt_stepI (P := fun j => rwV V j j = 0 → BROW (rwV V) j (fun y => Z 47 (cnF (rwV V) j * 6 + y)) (fun y => Z 48 (cnF (rwV V) j * 6 + y)) (V 44 5)) (fun j j0 j1 => hB j j0 j1) (fun _ => hrow9) j j0 j1 j2) (fun y y0 y1 => ⟨up_n _ (by omega), up_n _ (by omega)⟩)) | exact (fun j j0 j1 j2 => by by_cases e : j = f; (exact absurd (e ▸ j2) hfb); exact hB j j0 (by omega) j2)) (by omega)
        · skip
          have hfz : (rwV V) f f = 0 := Classical.byContradiction fun q => h_20 (by rw [q45]; exact q)
          have hcb := cnF_b (rwV V) (f := f) (by omega)
          refine j_iconst hX dX1_writeBasis_23 ⟨by decide, by decide⟩ ?_
          refine j_is2 hX dX1_writeBasis_24 rfl ?_
          have lp_25 : ∀ (f9 : Nat) (x : Int) (Z : VV), (0 ≤ x ∧ x ≤ V 44 5) → (fr [44, 47, 48] V Z) → (∀ b, b ≠ 6 → Z 44 b = V 44 b) → (Z 44 6 = cnF (rwV V) f) → (∀ j, 0 ≤ j → j < f → (rwV V) j j = 0 → BROW (rwV V) j (fun y => Z 47 (cnF (rwV V) j * 6 + y)) (fun y => Z 48 (cnF (rwV V) j * 6 + y)) (V 44 5)) → (BROW (rwV V) f (fun y => Z 47 (cnF (rwV V) f * 6 + y)) (fun y => Z 48 (cnF (rwV V) f * 6 + y)) x) → ((V 44 5 - x).toNat) < f9 → J X G 25 [vA 44, vI f, vI x] [] Z := by
            intro f9
            induction f9 with
            | zero => intro x Z _ _ _ _ _ _ hm; exact absurd hm (Nat.not_lt_zero _)
            | succ f9 ih_25 =>
              intro x Z hx hs h6 hd hB hrow hm
              refine j_il2 hX dX1_writeBasis_25 ?_
              refine j_al0 hX dX1_writeBasis_26 rfl ?_
              refine j_getI hX hG fl_X1_36 (Or.inl rfl) (by decide) dX1_writeBasis_27 ?_
              refine j_icmp_ge (tgt := 84) hX dX1_writeBasis_30 (by decide) (fun h_30 => ?_) (fun h_30 => ?_)
              · skip
                have q5 : Z 44 5 = V 44 5 := h6 5 (by decide)
                have ex9 : x = V 44 5 := by omega
                have hrow9 := ex9 ▸ hrow
                refine j_al0 hX dX1_writeBasis_84 rfl ?_
                refine j_dup hX dX1_writeBasis_85 rfl ?_
                refine j_getI hX hG fl_X1_111 (Or.inl rfl) (by decide) dX1_writeBasis_86 ?_
                refine j_iconst hX dX1_writeBasis_89 ⟨by decide, by decide⟩ ?_
                refine j_iadd hX dX1_writeBasis_90 (by omega) ?_
                refine j_putI hX hG fp_X1_111 rfl (by decide) dX1_writeBasis_91 ?_
                try (have hfb : ¬ (rwV V) f f = 0 := by show ¬ V 45 (f * 6 + f) = 0; rw [← q45]; exact h_20)
                refine j_inc1 hX dX1_writeBasis_94 rfl (by omega) ?_
                refine j_goto (tgt := 7) hX dX1_writeBasis_97 (by decide) ?_
                refine j_fg2 ?_
                exact ih_7 _ _ (by omega) (by first | exact fr_u hs (by decide) | exact hs) (by first | exact (fun b hb => by rw [up_n _ (by omega)]; exact h6 b hb) | exact h6) (by rw [cnF_S (by omega)]; first | rw [up_s, if_pos hfz, hd] | (rw [if_neg hfb, Int.add_zero]; exact hd)) (by first | exact (fun j j0 j1 j2 => BROW_e (lt_stepI (P := fun j => rwV V j j = 0 → BROW (rwV V) j (fun y => Z 47 (cnF (rwV V) j * 6 + y)) (fun y => Z 48 (cnF (rwV V) j * 6 + y)) (V 44 5)) (fun j j0 j1 => hB j j0 j1) (fun _ => hrow9) j j0 j1 j2) (fun y y0 y1 => ⟨up_n _ (by omega), up_n _ (by omega)⟩)) | exact (fun j j0 j1 j2 => by by_cases e : j = f; (exact absurd (e ▸ j2) hfb); exact hB j j0 (by omega) j2)) (by omega)
              · skip
                have q45 : ∀ i, Z 45 i = V 45 i := fun i => hs 45 i (by decide)
                have q5 : Z 44 5 = V 44 5 := h6 5 (by decide)
                refine j_al0 hX dX1_writeBasis_33 rfl ?_
                refine j_il2 hX dX1_writeBasis_34 ?_
                refine j_pVI1 (ci := 1) hX hG lk_X1_53 (ok_X1_isBound (by omega)) (by decide) rfl (Nat.le_of_ble_eq_true rfl) (Nat.le_of_ble_eq_true rfl) (Nat.le_of_ble_eq_true rfl) rfl dX1_writeBasis_35 ?_
                refine j_ifz_eq (tgt := 62) hX dX1_writeBasis_38 (by decide) (fun h_38 => ?_) (fun h_38 => ?_)
                · skip
                  have hxz : (rwV V) x x = 0 := Classical.byContradiction fun q => h_38 (by rw [q45]; exact q)
                  refine j_al0 hX dX1_writeBasis_62 rfl ?_
                  refine j_il2 hX dX1_writeBasis_63 ?_
                  refine j_il2 hX dX1_writeBasis_64 ?_
                  refine j_il1 hX dX1_writeBasis_65 ?_
                  refine j_icmp_ne (tgt := 73) hX dX1_writeBasis_66 (by decide) (fun h_66 => ?_) (fun h_66 => ?_)
                  · skip
                    refine j_lconst (x := 0) hX dX1_writeBasis_73 rfl ⟨by decide, by decide⟩ ?_
                    refine j_lconst (x := 1) hX dX1_writeBasis_74 rfl ⟨by decide, by decide⟩ ?_
                    refine j_cVV3 (ci := 1) hX hG lk_X1_114 (ok_X1_writeFraction (by omega) (by omega) (by decide) (by decide) (by decide)) (by decide) rfl (Nat.le_of_ble_eq_true rfl) (Nat.le_of_ble_eq_true rfl) (Nat.le_of_ble_eq_true rfl) rfl dX1_writeBasis_75 (fun V_75 h_75 => ?_)
                    obtain ⟨T9, B9, l_75, e_75⟩ := h_75
                    rw [hd] at e_75
                    subst e_75
                    refine j_inc2 hX dX1_writeBasis_78 rfl (by omega) ?_
                    refine j_goto (tgt := 25) hX dX1_writeBasis_81 (by decide) ?_
                    exact ih_25 _ _ (by omega) (fr_u (fr_u hs (by decide)) (by decide)) (fun b hb => by rw [up_n _ (by omega), up_n _ (by omega)]; exact h6 b hb) (by rw [up_n _ (by omega), up_n _ (by omega)]; exact hd) (fun j j0 j1 j2 => BROW_e (hB j j0 j1 j2) (fun y y0 y1 => by have hl := cnF_lt j0 j1 j2; have ha := cnF_b (rwV V) j0; exact ⟨by rw [up_n _ (by omega), up_n _ (by omega)], by rw [up_n _ (by omega), up_n _ (by omega)]⟩)) (by refine lt_stepI (BROW_e hrow (fun y y0 y1 => ⟨by rw [up_n _ (by omega), up_n _ (by omega)], by rw [up_n _ (by omega), up_n _ (by omega)]⟩)) ?_; simp only [up_s, up_n _ (show ¬ ((47 : Int) = 48 ∧ cnF (rwV V) f * 6 + x = cnF (rwV V) f * 6 + x) by omega)]; first | exact ⟨fun _ => l_56, fun q => absurd q hxb⟩ | exact ⟨fun q => absurd hxz q, fun _ => by have h9 := LT_u l_75 (LT_id _) (by decide) (by decide) rfl; exact ⟨by rw [h9.1]; first | rw [if_pos h_66] | rw [if_neg h_66], h9.2⟩⟩) (by omega)
                  · skip
                    refine j_lconst (x := 1) hX dX1_writeBasis_69 rfl ⟨by decide, by decide⟩ ?_
                    refine j_goto (tgt := 74) hX dX1_writeBasis_70 (by decide) ?_
                    refine j_lconst (x := 1) hX dX1_writeBasis_74 rfl ⟨by decide, by decide⟩ ?_
                    refine j_cVV3 (ci := 1) hX hG lk_X1_114 (ok_X1_writeFraction (by omega) (by omega) (by decide) (by decide) (by decide)) (by decide) rfl (Nat.le_of_ble_eq_true rfl) (Nat.le_of_ble_eq_true rfl) (Nat.le_of_ble_eq_true rfl) rfl dX1_writeBasis_75 (fun V_75 h_75 => ?_)
                    obtain ⟨T9, B9, l_75, e_75⟩ := h_75
                    rw [hd] at e_75
                    subst e_75
                    refine j_inc2 hX dX1_writeBasis_78 rfl (by omega) ?_
                    refine j_goto (tgt := 25) hX dX1_writeBasis_81 (by decide) ?_
                    exact ih_25 _ _ (by omega) (fr_u (fr_u hs (by decide)) (by decide)) (fun b hb => by rw [up_n _ (by omega), up_n _ (by omega)]; exact h6 b hb) (by rw [up_n _ (by omega), up_n _ (by omega)]; exact hd) (fun j j0 j1 j2 => BROW_e (hB j j0 j1 j2) (fun y y0 y1 => by have hl := cnF_lt j0 j1 j2; have ha := cnF_b (rwV V) j0; exact ⟨by rw [up_n _ (by omega), up_n _ (by omega)], by rw [up_n _ (by omega), up_n _ (by omega)]⟩)) (by refine lt_stepI (BROW_e hrow (fun y y0 y1 => ⟨by rw [up_n _ (by omega), up_n _ (by omega)], by rw [up_n _ (by omega), up_n _ (by omega)]⟩)) ?_; simp only [up_s, up_n _ (show ¬ ((47 : Int) = 48 ∧ cnF (rwV V) f * 6 + x = cnF (rwV V) f * 6 + x) by omega)]; first | exact ⟨fun _ => l_56, fun q => absurd q hxb⟩ | exact ⟨fun q => absurd hxz q, fun _ => by have h9 := LT_u l_75 (LT_id _) (by decide) (by decide) rfl; exact ⟨by rw [h9.1]; first | rw [if_pos h_66] | rw [if_neg h_66], h9.2⟩⟩) (by omega)
                · skip
                  have hxb : (rwV V) x x ≠ 0 := by show V 45 (x * 6 + x) ≠ 0; rw [← q45]; exact h_38
                  have nbx := hnb x hx.1 (by omega) hxb
                  have n1 : -6561 ≤ V 45 (x * 6 + f) ∧ V 45 (x * 6 + f) ≤ 6561 := (NB_e nbx (by omega) (by omega)).2
                  have n2 : -6561 ≤ V 45 (x * 6 + x) ∧ V 45 (x * 6 + x) ≤ 6561 := (NB_e nbx (by omega) (by omega)).2
                  refine j_al0 hX dX1_writeBasis_41 rfl ?_
                  refine j_il2 hX dX1_writeBasis_42 ?_
                  refine j_al0 hX dX1_writeBasis_43 rfl ?_
                  refine j_il2 hX dX1_writeBasis_44 ?_
                  refine j_il1 hX dX1_writeBasis_45 ?_
                  refine j_pVL2 (ci := 1) hX hG lk_X1_94 (ok_X1_numberOf (by omega) (by omega)) (by decide) rfl (Nat.le_of_ble_eq_true rfl) (Nat.le_of_ble_eq_true rfl) (Nat.le_of_ble_eq_true rfl) rfl dX1_writeBasis_46 ?_
                  refine j_eqS (st' := [vL (V 45 (x * 6 + f)), vI x, vA 44]) (by rw [q45]) ?_
                  refine j_lneg hX dX1_writeBasis_49 (by omega) ?_
                  refine j_al0 hX dX1_writeBasis_50 rfl ?_
                  refine j_il2 hX dX1_writeBasis_51 ?_
                  refine j_il2 hX dX1_writeBasis_52 ?_
                  refine j_pVL2 (ci := 1) hX hG lk_X1_94 (ok_X1_numberOf (by omega) (by omega)) (by decide) rfl (Nat.le_of_ble_eq_true rfl) (Nat.le_of_ble_eq_true rfl) (Nat.le_of_ble_eq_true rfl) rfl dX1_writeBasis_53 ?_
                  refine j_eqS (st' := [vL (V 45 (x * 6 + x)), vL (-V 45 (x * 6 + f)), vI x, vA 44]) (by rw [q45]) ?_
                  refine j_cVV3 (ci := 1) hX hG lk_X1_114 (ok_X1_writeFraction (by omega) (by omega) (by omega) (by omega) hxb) (by decide) rfl (Nat.le_of_ble_eq_true rfl) (Nat.le_of_ble_eq_true rfl) (Nat.le_of_ble_eq_true rfl) rfl dX1_writeBasis_56 (fun V_56 h_56 => ?_)
                  obtain ⟨T9, B9, l_56, e_56⟩ := h_56
                  rw [hd] at e_56
                  subst e_56
                  refine j_goto (tgt := 78) hX dX1_writeBasis_59 (by decide) ?_
                  refine j_inc2 hX dX1_writeBasis_78 rfl (by omega) ?_
                  refine j_goto (tgt := 25) hX dX1_writeBasis_81 (by decide) ?_
                  exact ih_25 _ _ (by omega) (fr_u (fr_u hs (by decide)) (by decide)) (fun b hb => by rw [up_n _ (by omega), up_n _ (by omega)]; exact h6 b hb) (by rw [up_n _ (by omega), up_n _ (by omega)]; exact hd) (fun j j0 j1 j2 => BROW_e (hB j j0 j1 j2) (fun y y0 y1 => by have hl := cnF_lt j0 j1 j2; have ha := cnF_b (rwV V) j0; exact ⟨by rw [up_n _ (by omega), up_n _ (by omega)], by rw [up_n _ (by omega), up_n _ (by omega)]⟩)) (by refine lt_stepI (BROW_e hrow (fun y y0 y1 => ⟨by rw [up_n _ (by omega), up_n _ (by omega)], by rw [up_n _ (by omega), up_n _ (by omega)]⟩)) ?_; simp only [up_s, up_n _ (show ¬ ((47 : Int) = 48 ∧ cnF (rwV V) f * 6 + x = cnF (rwV V) f * 6 + x) by omega)]; first | exact ⟨fun _ => l_56, fun q => absurd q hxb⟩ | exact ⟨fun q => absurd hxz q, fun _ => by have h9 := LT_u l_75 (LT_id _) (by decide) (by decide) rfl; exact ⟨by rw [h9.1]; first | rw [if_pos h_66] | rw [if_neg h_66], h9.2⟩⟩) (by omega)
          exact lp_25 _ _ _ (by omega) hs h6 hd hB (fun y y0 y1 => by omega) (Nat.lt_succ_self _)
  exact lp_7 _ _ _ (by omega) (fr_u fr_0 (by decide)) (fun b hb => up_n _ (by omega)) (up_s ..) (fun j j0 j1 => by omega) (Nat.lt_succ_self _)
set_option maxHeartbeats 4000000 in
theorem ok_X1_prepare {V : VV} (ho9 : RO V 15) (ht : TR V 15) (hpk : V 44 4 = V 15 7 → BASP V (V 16) (V 15 3) (V 15 6) (V 15 5)) : Ok NC yX1_prepare cX1_prepare 3 none 4 103 [vA 44, vA 15] V (pV (fun V' => V' 44 4 = V 15 7 ∧ BASP V' (V 16) (V 15 3) (V 15 6) (V 15 5) ∧ fr [44, 45, 46, 47, 48] V V')) := by
  refine Ok.intro (by decide +kernel) (Nat.le_of_ble_eq_true rfl) (fun X G hX hG hR hoa hoV => ?_)
  show J X G 0 [vA 44, vA 15, vU] [] V
  have hb9 := ho9.b
  have hnn := ho9.n
  refine j_al0 hX dX1_prepare_0 rfl ?_
  refine j_getI hX hG fl_X1_24 (Or.inl rfl) (by decide) dX1_prepare_1 ?_
  refine j_al1 hX dX1_prepare_4 rfl ?_
  refine j_getI hX hG fl_X1_28 (Or.inl rfl) (by decide) dX1_prepare_5 ?_
  refine j_icmp_ne (tgt := 12) hX dX1_prepare_8 (by decide) (fun h_8 => ?_) (fun h_8 => ?_)
  · skip
    refine j_al0 hX dX1_prepare_12 rfl ?_
    refine j_al1 hX dX1_prepare_13 rfl ?_
    refine j_getI hX hG fl_X1_28 (Or.inl rfl) (by decide) dX1_prepare_14 ?_
    refine j_putI hX hG fp_X1_24 rfl (by decide) dX1_prepare_17 ?_
    refine j_al0 hX dX1_prepare_20 rfl ?_
    refine j_al1 hX dX1_prepare_21 rfl ?_
    refine j_getI hX hG fl_X1_33 (Or.inl rfl) (by decide) dX1_prepare_22 ?_
    refine j_putI hX hG fp_X1_36 rfl (by decide) dX1_prepare_25 ?_
    refine j_al0 hX dX1_prepare_28 rfl ?_
    refine j_getR (q := 45) hX hG fl_X1_9 rfl rfl (by decide) dX1_prepare_29 ?_
    refine j_lconst (x := 0) hX dX1_prepare_32 rfl ⟨by decide, by decide⟩ ?_
    refine j_cSV2 hX hG lk_X1_37 (ok_J7_fill_d0a16 (n := 36) (by decide) (by first | assumption | decide)) (Nat.le_of_ble_eq_true rfl) (Nat.le_of_ble_eq_true rfl) (Nat.le_of_ble_eq_true rfl) rfl dX1_prepare_33 (fun V_33 h_33 => ?_)
    subst h_33
    refine j_iconst hX dX1_prepare_36 ⟨by decide, by decide⟩ ?_
    refine j_is2 hX dX1_prepare_37 rfl ?_
    have lp_38 : ∀ (f9 : Nat) (e : Int) (W : VV), (0 ≤ e ∧ e ≤ V 15 5) → (fr [44, 45, 46] V W) → (W 44 4 = V 15 7) → (W 44 5 = V 15 3) → (CIr (V 15 3) (GEN (V 16) (V 15 3) (V 15 6) e) (rwV W)) → ((V 15 5 - e).toNat) < f9 → J X G 38 [vA 44, vA 15, vI e] [] W := by
      intro f9
      induction f9 with
      | zero => intro e W _ _ _ _ _ hm; exact absurd hm (Nat.not_lt_zero _)
      | succ f9 ih_38 =>
        intro e W he hs h4 h5 hC hm
        refine j_il2 hX dX1_prepare_38 ?_
        refine j_al1 hX dX1_prepare_39 rfl ?_
        refine j_getI hX hG fl_X1_43 (Or.inl rfl) (by decide) dX1_prepare_40 ?_
        refine j_icmp_ge (tgt := 62) hX dX1_prepare_43 (by decide) (fun h_43 => ?_) (fun h_43 => ?_)
        · skip
          refine j_iconst hX dX1_prepare_62 ⟨by decide, by decide⟩ ?_
          refine j_is2 hX dX1_prepare_63 rfl ?_
          have lp_64 : ∀ (f9 : Nat) (k : Int) (W : VV), (0 ≤ k ∧ k ≤ V 15 3) → (fr [44, 45, 46] V W) → (W 44 4 = V 15 7) → (W 44 5 = V 15 3) → (CL (V 15 3) (GEN (V 16) (V 15 3) (V 15 6) (V 15 5)) (rwV W) k) → ((V 15 3 - k).toNat) < f9 → J X G 64 [vA 44, vA 15, vI k] [] W := by
            intro f9
            induction f9 with
            | zero => intro k W _ _ _ _ _ hm; exact absurd hm (Nat.not_lt_zero _)
            | succ f9 ih_64 =>
              intro k W hk hs h4 h5 hC hm
              refine j_il2 hX dX1_prepare_64 ?_
              refine j_al0 hX dX1_prepare_65 rfl ?_
              refine j_getI hX hG fl_X1_36 (Or.inl rfl) (by decide) dX1_prepare_66 ?_
              refine j_icmp_ge (tgt := 91) hX dX1_prepare_69 (by decide) (fun h_69 => ?_) (fun h_69 => ?_)
              · skip
                have ek9 : k = V 15 3 := by omega
                rw [ek9] at hC
                refine j_al0 hX dX1_prepare_91 rfl ?_
                refine j_cVV0 (ci := 1) hX hG lk_X1_61 (ok_X1_writeBasis (by rw [h5]; omega) (fun x x0 x1 hx => by rw [h5] at x1 ⊢; exact (hC.2.2.2.2.2 x x0 x1 hx x1).1)) (by decide) rfl (Nat.le_of_ble_eq_true rfl) (Nat.le_of_ble_eq_true rfl) (Nat.le_of_ble_eq_true rfl) rfl dX1_prepare_92 (fun V_92 h_92 => ?_)
                obtain ⟨b_92, s_92, f_92⟩ := h_92
                rw [h5] at b_92
                exact j_ret hR dX1_prepare_95 ⟨by rw [s_92 4 (by decide)]; exact h4, ⟨by rw [s_92 5 (by decide)]; exact h5, rwV W, hC, b_92⟩, fr_t (fr_w hs (by decide)) (fr_w f_92 (by decide))⟩
              · skip
                refine j_al0 hX dX1_prepare_72 rfl ?_
                refine j_il2 hX dX1_prepare_73 ?_
                refine j_pVI1 (ci := 1) hX hG lk_X1_53 (ok_X1_isBound (by omega)) (by decide) rfl (Nat.le_of_ble_eq_true rfl) (Nat.le_of_ble_eq_true rfl) (Nat.le_of_ble_eq_true rfl) rfl dX1_prepare_74 ?_
                refine j_ifz_eq (tgt := 85) hX dX1_prepare_77 (by decide) (fun h_77 => ?_) (fun h_77 => ?_)
                · skip
                  refine j_inc2 hX dX1_prepare_85 rfl (by omega) ?_
                  refine j_goto (tgt := 64) hX dX1_prepare_88 (by decide) ?_
                  exact ih_64 _ _ (by omega) (by first | exact fr_t hs (fr_w f_82 (by decide)) | exact hs) (by first | (rw [f_82 44 4 (by decide)]; exact h4) | exact h4) (by first | (rw [f_82 44 5 (by decide)]; exact h5) | exact h5) (by first | exact c_82 | exact CL_skip hC (Classical.byContradiction fun q => h_77 q)) (by omega)
                · skip
                  refine j_al0 hX dX1_prepare_80 rfl ?_
                  refine j_il2 hX dX1_prepare_81 ?_
                  refine j_cVV1 (ci := 1) hX hG lk_X1_57 (ok_X1_clearBelow (by rw [h5]; omega) (by rw [h5]; exact hC) (by rw [h5]; omega) h_77) (by decide) rfl (Nat.le_of_ble_eq_true rfl) (Nat.le_of_ble_eq_true rfl) (Nat.le_of_ble_eq_true rfl) rfl dX1_prepare_82 (fun V_82 h_82 => ?_)
                  obtain ⟨c_82, f_82⟩ := h_82
                  rw [h5] at c_82
                  refine j_inc2 hX dX1_prepare_85 rfl (by omega) ?_
                  refine j_goto (tgt := 64) hX dX1_prepare_88 (by decide) ?_
                  exact ih_64 _ _ (by omega) (by first | exact fr_t hs (fr_w f_82 (by decide)) | exact hs) (by first | (rw [f_82 44 4 (by decide)]; exact h4) | exact h4) (by first | (rw [f_82 44 5 (by decide)]; exact h5) | exact h5) (by first | exact c_82 | exact CL_skip hC (Classical.byContradiction fun q => h_77 q)) (by omega)
          exact lp_64 _ _ _ ⟨by decide, by omega⟩ hs h4 h5 (CL_0 (by have e9 : e = V 15 5 := (by have := hs 15 5 (by decide); omega); rw [← e9]; exact hC)) (Nat.lt_succ_self _)
        · skip
          have q15 : ∀ b, W 15 b = V 15 b := fun b => hs 15 b (by decide)
          have q16 : W 16 = V 16 := funext fun b => hs 16 b (by decide)
          have roW : RO W 15 := ho9.sm q15
          have trW : TR W 15 := fun e h0 h1 => by rw [show W (15 + 1) e = V (15 + 1) e from congrFun q16 e, q15]; exact ht e h0 (by rw [q15] at h1; exact h1)
          have q5 := q15 5
          refine j_al0 hX dX1_prepare_46 rfl ?_
          refine j_al1 hX dX1_prepare_47 rfl ?_
          refine j_il2 hX dX1_prepare_48 ?_
          refine j_cVV2 (ci := 1) hX hG lk_X1_46 (ok_X1_writeEquation roW trW (by rw [q5]; omega)) (by decide) rfl (Nat.le_of_ble_eq_true rfl) (Nat.le_of_ble_eq_true rfl) (Nat.le_of_ble_eq_true rfl) rfl dX1_prepare_49 (fun V_49 h_49 => ?_)
          obtain ⟨z_49, f_49⟩ := h_49
          rw [q16, q15, q15] at z_49
          have hn_49 : NB (V 15 3) 3 (eqV (V 16) (V 15 3) (V 15 6) e) := eqV_b (by omega) (by omega) hnn (by rcases ho9.2.1 with h | h; (rw [h.2]; have := Int.mul_le_mul_of_nonneg_left (a := 1) (b := V 15 3) (c := V 15 3) (by omega) (by omega); omega); (rw [h.2]; omega)) ht ⟨by omega, by omega⟩
          have v5 : V_49 44 5 = V 15 3 := (f_49 44 5 (by decide)).trans h5
          have vC : CIr (V_49 44 5) (GEN (V 16) (V 15 3) (V 15 6) e) (rwV V_49) := by rw [v5, show rwV V_49 = rwV W by funext a b; exact f_49 45 _ (by decide)]; exact hC
          refine j_al0 hX dX1_prepare_52 rfl ?_
          refine j_cVV0 (ci := 1) hX hG lk_X1_50 (ok_X1_addEquation (by rw [v5]; omega) vC (by rw [v5]; exact hn_49) (fun x x0 x1 => z_49 x x0 (by rw [v5] at x1; omega))) (by decide) rfl (Nat.le_of_ble_eq_true rfl) (Nat.le_of_ble_eq_true rfl) (Nat.le_of_ble_eq_true rfl) rfl dX1_prepare_53 (fun V_53 h_53 => ?_)
          obtain ⟨c_53, f_53⟩ := h_53
          rw [v5, GEN_S he.1] at c_53
          refine j_inc2 hX dX1_prepare_56 rfl (by omega) ?_
          refine j_goto (tgt := 38) hX dX1_prepare_59 (by decide) ?_
          exact ih_38 _ _ (by omega) (fr_t hs (fr_t (fr_w f_49 (by decide)) (fr_w f_53 (by decide)))) (by rw [f_53 44 4 (by decide), f_49 44 4 (by decide)]; exact h4) (by rw [f_53 44 5 (by decide)]; exact v5) c_53 (by omega)
    exact lp_38 _ _ _ ⟨by decide, by omega⟩ (fr_f (fr_u (fr_u fr_0 (by decide)) (by decide)) (by decide)) (by rw [fill_n _ (by decide), up_n _ (by decide), up_s]) (by rw [fill_n _ (by decide), up_s, up_n _ (by decide)]) (CIr_0 fun x x0 x1 => fill_in _ (by omega) (by omega)) (Nat.lt_succ_self _)
  · skip
    exact j_ret hR dX1_prepare_11 ⟨by omega, hpk (by omega), fr_0⟩
set_option maxHeartbeats 4000000 in
theorem ok_X1_part {V : VV} {r s p : Int} (hr : 0 ≤ r ∧ r < 6) (hs9 : 0 ≤ s ∧ s < 6) : Ok NC yX1_part cX1_part 4 (some .long) 1 21 [vA 44, vI r, vI s, vI p] V (pL (fun x9 V' => x9 = (if p = 0 then V 47 (r * 6 + s) else V 48 (r * 6 + s)) ∧ V' = V)) := by
  refine Ok.intro (by decide +kernel) (Nat.le_of_ble_eq_true rfl) (fun X G hX hG hR hoa hoV => ?_)
  show J X G 0 [vA 44, vI r, vI s, vI p] [] V
  refine j_il3 hX dX1_part_0 ?_
  refine j_if_ne (tgt := 11) hX dX1_part_1 (by decide) (fun h_1 => ?_) (fun h_1 => ?_)
  · skip
    refine j_al0 hX dX1_part_11 rfl ?_
    refine j_getR (q := 48) hX hG fl_X1_21 rfl rfl (by decide) dX1_part_12 ?_
    refine j_il1 hX dX1_part_15 ?_
    refine j_bipush hX dX1_part_16 (by decide) ⟨by decide, by decide⟩ ?_
    refine j_imul hX dX1_part_18 (by omega) ?_
    refine j_il2 hX dX1_part_19 ?_
    refine j_iadd hX dX1_part_20 (by omega) ?_
    refine j_pSL2 hX hG lk_X1_86 (ok_X11_bitsAt_in (n := 36) (by decide) (by first | assumption | decide) (by omega)) (Nat.le_of_ble_eq_true rfl) (Nat.le_of_ble_eq_true rfl) (Nat.le_of_ble_eq_true rfl) rfl dX1_part_21 ?_
    exact j_retL hR dX1_part_24 ⟨by first | rw [if_pos h_1] | rw [if_neg h_1], rfl⟩
  · skip
    refine j_al0 hX dX1_part_4 rfl ?_
    refine j_getR (q := 47) hX hG fl_X1_18 rfl rfl (by decide) dX1_part_5 ?_
    refine j_goto (tgt := 15) hX dX1_part_8 (by decide) ?_
    refine j_il1 hX dX1_part_15 ?_
    refine j_bipush hX dX1_part_16 (by decide) ⟨by decide, by decide⟩ ?_
    refine j_imul hX dX1_part_18 (by omega) ?_
    refine j_il2 hX dX1_part_19 ?_
    refine j_iadd hX dX1_part_20 (by omega) ?_
    refine j_pSL2 hX hG lk_X1_86 (ok_X11_bitsAt_in (n := 36) (by decide) (by first | assumption | decide) (by omega)) (Nat.le_of_ble_eq_true rfl) (Nat.le_of_ble_eq_true rfl) (Nat.le_of_ble_eq_true rfl) rfl dX1_part_21 ?_
    exact j_retL hR dX1_part_24 ⟨by first | rw [if_pos h_1] | rw [if_neg h_1], rfl⟩
set_option maxHeartbeats 4000000 in
theorem ok_X1_partOfValue {V : VV} {r p g : Int} (hr : 0 ≤ r ∧ r < 6) (hg : 2 ≤ g ∧ g ≤ 6) (hv : VOK g (fun s => V 47 (r * 6 + s)) (fun s => V 48 (r * 6 + s))) (hn : 0 ≤ V 23 1 ∧ V 23 1 ≤ 16) (hQ : ∀ k, 0 ≤ k → k < V 23 1 → 0 ≤ V 24 k ∧ V 24 k < g) : Ok NC yX1_partOfValue cX1_partOfValue 15 (some .long) 2 51 [vA 44, vA 23, vI r, vI p] V (pL (fun x9 V' => x9 = (if p = 0 then (valF (fun s => V 47 (r * 6 + s)) (fun s => V 48 (r * 6 + s)) (V 24) (V 23 1).toNat).1 else (valF (fun s => V 47 (r * 6 + s)) (fun s => V 48 (r * 6 + s)) (V 24) (V 23 1).toNat).2) ∧ V' = V)) := by
  refine Ok.intro (by decide +kernel) (Nat.le_of_ble_eq_true rfl) (fun X G hX hG hR hoa hoV => ?_)
  show J X G 0 [vA 44, vA 23, vI r, vI p, vU, vU, vU, vU, vU, vU, vU, vU, vU, vU, vU] [] V
  obtain ⟨D9, D0, D1, D2⟩ := hv.2
  refine j_lconst (x := 0) hX dX1_partOfValue_0 rfl ⟨by decide, by decide⟩ ?_
  refine j_ls4 hX dX1_partOfValue_1 rfl ?_
  refine j_lconst (x := 1) hX dX1_partOfValue_3 rfl ⟨by decide, by decide⟩ ?_
  refine j_ls6 hX dX1_partOfValue_4 rfl ?_
  refine j_iconst hX dX1_partOfValue_6 ⟨by decide, by decide⟩ ?_
  refine j_is8 hX dX1_partOfValue_7 rfl ?_
  have lp_9 : ∀ (f9 : Nat) (k : Int), (0 ≤ k ∧ k ≤ V 23 1) → ((V 23 1 - k).toNat) < f9 → J X G 9 [vA 44, vA 23, vI r, vI p, vL ((valF (fun s => V 47 (r * 6 + s)) (fun s => V 48 (r * 6 + s)) (V 24) k.toNat).1), vU, vL ((valF (fun s => V 47 (r * 6 + s)) (fun s => V 48 (r * 6 + s)) (V 24) k.toNat).2), vU, vI k, vU, vU, vU, vU, vU, vU] [] V := by
    intro f9
    induction f9 with
    | zero => intro k _ hm; exact absurd hm (Nat.not_lt_zero _)
    | succ f9 ih_9 =>
      intro k hk hm
      refine j_il8 hX dX1_partOfValue_9 ?_
      refine j_al1 hX dX1_partOfValue_11 rfl ?_
      refine j_getI hX hG fl_X1_118 (Or.inl rfl) (by decide) dX1_partOfValue_12 ?_
      refine j_icmp_ge (tgt := 99) hX dX1_partOfValue_15 (by decide) (fun h_15 => ?_) (fun h_15 => ?_)
      · skip
        refine j_il3 hX dX1_partOfValue_99 ?_
        refine j_if_ne (tgt := 108) hX dX1_partOfValue_100 (by decide) (fun h_100 => ?_) (fun h_100 => ?_)
        · skip
          refine j_ll6 hX dX1_partOfValue_108 ?_
          exact j_retL hR dX1_partOfValue_110 ⟨by have e : k = V 23 1 := (by omega); rw [e]; first | rw [if_pos h_100] | rw [if_neg h_100], rfl⟩
        · skip
          refine j_ll4 hX dX1_partOfValue_103 ?_
          refine j_goto (tgt := 110) hX dX1_partOfValue_105 (by decide) ?_
          exact j_retL hR dX1_partOfValue_110 ⟨by have e : k = V 23 1 := (by omega); rw [e]; first | rw [if_pos h_100] | rw [if_neg h_100], rfl⟩
      · skip
        have hr9 := hQ k hk.1
        have hvb := val_b hv ⟨D0, D2⟩ k.toNat (fun j j0 j1 => hQ j j0 (by omega))
        obtain ⟨b0, b1, b2⟩ := hvb
        refine j_al0 hX dX1_partOfValue_18 rfl ?_
        refine j_il2 hX dX1_partOfValue_19 ?_
        refine j_al1 hX dX1_partOfValue_20 rfl ?_
        refine j_il8 hX dX1_partOfValue_21 ?_
        refine j_pVI1 (ci := 7) hX hG lk_X1_123 (ok_X7_stateOf (by decide) (by omega)) (by decide) rfl (Nat.le_of_ble_eq_true rfl) (Nat.le_of_ble_eq_true rfl) (Nat.le_of_ble_eq_true rfl) rfl dX1_partOfValue_23 ?_
        try dsimp only [Int.reduceAdd]
        refine j_iconst hX dX1_partOfValue_26 ⟨by decide, by decide⟩ ?_
        refine j_pVL3 (ci := 1) hX hG lk_X1_126 (ok_X1_part (by first | assumption | omega | decide) (by have := hr9 (by omega); omega)) (by decide) rfl (Nat.le_of_ble_eq_true rfl) (Nat.le_of_ble_eq_true rfl) (Nat.le_of_ble_eq_true rfl) rfl dX1_partOfValue_27 ?_
        refine j_eqS (st' := [vL (V 47 (r * 6 + V 24 k))]) (by rw [if_pos rfl]) ?_
        refine j_ls9 hX dX1_partOfValue_30 rfl ?_
        refine j_al0 hX dX1_partOfValue_32 rfl ?_
        refine j_il2 hX dX1_partOfValue_33 ?_
        refine j_al1 hX dX1_partOfValue_34 rfl ?_
        refine j_il8 hX dX1_partOfValue_35 ?_
        refine j_pVI1 (ci := 7) hX hG lk_X1_123 (ok_X7_stateOf (by decide) (by omega)) (by decide) rfl (Nat.le_of_ble_eq_true rfl) (Nat.le_of_ble_eq_true rfl) (Nat.le_of_ble_eq_true rfl) rfl dX1_partOfValue_37 ?_
        try dsimp only [Int.reduceAdd]
        refine j_iconst hX dX1_partOfValue_40 ⟨by decide, by decide⟩ ?_
        refine j_pVL3 (ci := 1) hX hG lk_X1_126 (ok_X1_part (by first | assumption | omega | decide) (by have := hr9 (by omega); omega)) (by decide) rfl (Nat.le_of_ble_eq_true rfl) (Nat.le_of_ble_eq_true rfl) (Nat.le_of_ble_eq_true rfl) rfl dX1_partOfValue_41 ?_
        refine j_eqS (st' := [vL (V 48 (r * 6 + V 24 k))]) (by rw [if_neg (by decide)]) ?_
        refine j_ls11 hX dX1_partOfValue_44 rfl ?_
        obtain ⟨t9, ht9⟩ : ∃ t9, t9 = (valF (fun s => V 47 (r * 6 + s)) (fun s => V 48 (r * 6 + s)) (V 24) k.toNat).1 := ⟨_, rfl⟩
        obtain ⟨c9, hc9⟩ : ∃ c9, c9 = (valF (fun s => V 47 (r * 6 + s)) (fun s => V 48 (r * 6 + s)) (V 24) k.toNat).2 := ⟨_, rfl⟩
        have hD9 : c9 ≤ 14348907 := by rw [hc9]; exact Int.le_trans (Int.le_of_dvd (by omega) b1) D1
        have hbo := val_o (k := k) (t := t9) (c := c9) (T := V 47 (r * 6 + V 24 k)) (B := V 48 (r * 6 + V 24 k)) (by omega) (by rw [hc9]; exact b0) hD9 (by rw [ht9, hc9]; have e : ((k.toNat : Nat) : Int) = k := (by omega); rw [e] at b2; exact b2) (hv.1 _ (hr9 (by omega)).1 (hr9 (by omega)).2)
        have hd9 : 0 < (Int.gcd (t9 * V 48 (r * 6 + V 24 k) + V 47 (r * 6 + V 24 k) * c9) (c9 * V 48 (r * 6 + V 24 k)) : Int) := (LT_of (t := t9 * V 48 (r * 6 + V 24 k) + V 47 (r * 6 + V 24 k) * c9) (b := c9 * V 48 (r * 6 + V 24 k)) (by omega) rfl rfl).1
        rw [ht9, hc9] at hd9 hbo
        refine j_ll4 hX dX1_partOfValue_46 ?_
        refine j_ll11 hX dX1_partOfValue_48 ?_
        refine j_lmul hX dX1_partOfValue_50 (by omega) ?_
        refine j_ll9 hX dX1_partOfValue_51 ?_
        refine j_ll6 hX dX1_partOfValue_53 ?_
        refine j_lmul hX dX1_partOfValue_55 (by omega) ?_
        refine j_ladd hX dX1_partOfValue_56 (by omega) ?_
        refine j_ls4 hX dX1_partOfValue_57 rfl ?_
        refine j_ll6 hX dX1_partOfValue_59 ?_
        refine j_ll11 hX dX1_partOfValue_61 ?_
        refine j_lmul hX dX1_partOfValue_63 (by omega) ?_
        refine j_ls6 hX dX1_partOfValue_64 rfl ?_
        refine j_ll4 hX dX1_partOfValue_66 ?_
        refine j_ll6 hX dX1_partOfValue_68 ?_
        refine j_pSL2 hX hG lk_X1_104 (ok_X11_commonDivisor (by omega) (by omega)) (Nat.le_of_ble_eq_true rfl) (Nat.le_of_ble_eq_true rfl) (Nat.le_of_ble_eq_true rfl) rfl dX1_partOfValue_70 ?_
        refine j_ls13 hX dX1_partOfValue_73 rfl ?_
        refine j_ll4 hX dX1_partOfValue_75 ?_
        refine j_ll13 hX dX1_partOfValue_77 ?_
        refine j_pSL2 hX hG lk_X1_108 (ok_X11_over ) (Nat.le_of_ble_eq_true rfl) (Nat.le_of_ble_eq_true rfl) (Nat.le_of_ble_eq_true rfl) rfl dX1_partOfValue_79 ?_
        refine j_ls4 hX dX1_partOfValue_82 rfl ?_
        refine j_ll6 hX dX1_partOfValue_84 ?_
        refine j_ll13 hX dX1_partOfValue_86 ?_
        refine j_pSL2 hX hG lk_X1_108 (ok_X11_over ) (Nat.le_of_ble_eq_true rfl) (Nat.le_of_ble_eq_true rfl) (Nat.le_of_ble_eq_true rfl) rfl dX1_partOfValue_88 ?_
        refine j_ls6 hX dX1_partOfValue_91 rfl ?_
        refine j_inc8 hX dX1_partOfValue_93 rfl (by omega) ?_
        refine j_goto (tgt := 9) hX dX1_partOfValue_96 (by decide) ?_
        refine j_fg9 ?_
        refine j_fg11 ?_
        refine j_fg13 ?_
        refine j_eqL (ls' := [vA 44, vA 23, vI r, vI p, vL ((valF (fun s => V 47 (r * 6 + s)) (fun s => V 48 (r * 6 + s)) (V 24) (k + 1).toNat).1), vU, vL ((valF (fun s => V 47 (r * 6 + s)) (fun s => V 48 (r * 6 + s)) (V 24) (k + 1).toNat).2), vU, vI (k + 1), vU, vU, vU, vU, vU, vU]) (by rw [valF_S hk.1 rfl rfl]; simp only [if_pos hd9]) ?_
        exact ih_9 _ (by omega) (by omega)
  refine j_eqL (ls' := [vA 44, vA 23, vI r, vI p, vL ((valF (fun s => V 47 (r * 6 + s)) (fun s => V 48 (r * 6 + s)) (V 24) (0 : Int).toNat).1), vU, vL ((valF (fun s => V 47 (r * 6 + s)) (fun s => V 48 (r * 6 + s)) (V 24) (0 : Int).toNat).2), vU, vI 0, vU, vU, vU, vU, vU, vU]) rfl ?_
  exact lp_9 _ _ (by omega) (Nat.lt_succ_self _)
