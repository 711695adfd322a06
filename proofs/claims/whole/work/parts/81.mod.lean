theorem sh_post {V Y : VV} {r f i g gg : Int} (hgn : 0 ≤ gg) (hg0 : 0 ≤ g) (hi : 0 ≤ i) (hD : ∀ x, 0 ≤ x → x < i → Y r (f + x) = (V r (f + x)).tdiv gg) (hR : ∀ j, (j < f ∨ f + i ≤ j) → Y r j = V r j) (hs : fr [r] V Y) (h : (1 < gg ∧ g ≤ i ∧ i ≤ g) ∨ (gg ≤ 1 ∧ Y = V)) (hd : ∀ x, 0 ≤ x → x < g → gg ∣ V r (f + x)) (he : gg = gF (fun y => V r (f + y)) g.toNat) : NRM g (fun y => V r (f + y)) (fun y => Y r (f + y)) ∧ (∀ j, (j < f ∨ f + g ≤ j) → Y r j = V r j) ∧ fr [r] V Y := by
  subst he
  refine ⟨NRM_of fun x x0 x1 => ?_, fun j hj => ?_, hs⟩
  · show Y r (f + x) = if 0 < gF (fun y => V r (f + y)) g.toNat then (V r (f + x)).tdiv (gF (fun y => V r (f + y)) g.toNat) else 0
    rcases h with ⟨a, b, c⟩ | ⟨a, b⟩
    · rw [if_pos (by omega)]; exact hD x x0 (by omega)
    · rw [b]
      by_cases z : gF (fun y => V r (f + y)) g.toNat = 0
      · rw [if_neg (by omega)]
        have := hd x x0 x1
        rw [z] at this
        exact Int.zero_dvd.mp this
      · rw [show gF (fun y => V r (f + y)) g.toNat = 1 by omega, if_pos (by decide), Int.tdiv_one]
  · rcases h with ⟨a, b, c⟩ | ⟨a, b⟩
    · exact hR j (by omega)
    · rw [b]
theorem mb9 {x y a b : Int} (hx : ab x ≤ a) (hy : ab y ≤ b) (h : a * b ≤ 3000000000000000000) : -3000000000000000000 ≤ x * y ∧ x * y ≤ 3000000000000000000 := by
  have e := ab_mul x y
  have k := Int.mul_le_mul hx hy (ab_nn _) (Int.le_trans (ab_nn _) hx)
  rcases ab_d (x * y) with q | q <;> omega
theorem MO.le {V : VV} (ho : MO V) : V 55 4 ≤ V 55 3 ∧ V 55 1 ≤ V 55 4 := by
  have hb := ho.b
  have h1 := Int.mul_le_mul_of_nonneg_left (a := 1) (b := V 55 1) (c := V 55 4) (by omega) (by omega)
  have h2 := Int.mul_le_mul_of_nonneg_left (a := 1) (b := V 55 1) (c := V 55 1) (by omega) (by omega)
  have h3 := ho.2.2
  rcases ho.2.1 with h | h <;> omega
def EQn (g : Int) (W : VV) (F : Int → Int) (n : Int) : Prop := ∀ x, 0 ≤ x → x < g → W 75 x = F x ∧ -n ≤ F x ∧ F x ≤ n
theorem ind_b (a x : Int) : 0 ≤ ind a x ∧ ind a x ≤ 1 := by rcases ind_d a x with h | h <;> omega
theorem up_ina (V : VV) (s x : Int) : (up V 75 s (V 75 s + 1)) 75 x = V 75 x + ind s x := by
  rcases ind_d s x with ⟨h, e⟩ | ⟨h, e⟩
  · rw [e, h, up_s]
  · rw [e, up_n _ (fun q => h q.2)]; omega
theorem up_ins (V : VV) (s x : Int) : (up V 75 s (V 75 s - 1)) 75 x = V 75 x - ind s x := by
  rcases ind_d s x with ⟨h, e⟩ | ⟨h, e⟩
  · rw [e, h, up_s]
  · rw [e, up_n _ (fun q => h q.2)]; omega
theorem EQn_a {g s n : Int} {W : VV} {F : Int → Int} (h : EQn g W F n) (_ : 0 ≤ s ∧ s < g) : EQn g (up W 75 s (W 75 s + 1)) (fun x => F x + ind s x) (n + 1) := fun x a b => by
  have h1 := h x a b
  have h2 := ind_b s x
  exact ⟨by rw [up_ina, h1.1], by show -(n + 1) ≤ F x + ind s x; omega, by show F x + ind s x ≤ n + 1; omega⟩
theorem EQn_s {g s n : Int} {W : VV} {F : Int → Int} (h : EQn g W F n) (_ : 0 ≤ s ∧ s < g) : EQn g (up W 75 s (W 75 s - 1)) (fun x => F x - ind s x) (n + 1) := fun x a b => by
  have h1 := h x a b
  have h2 := ind_b s x
  exact ⟨by rw [up_ins, h1.1], by show -(n + 1) ≤ F x - ind s x; omega, by show F x - ind s x ≤ n + 1; omega⟩
theorem eq_w2 {V : VV} {e x : Int} (ho : MO V) (hw : V 55 2 = 2) (he : 0 ≤ e ∧ e < V 55 3) (m : 0 ≤ e % V 55 1 ∧ e % V 55 1 < V 55 1) : (0 : Int) + ind (V 58 e) x - ind (e / V 55 4) x - ind (V 58 (e % V 55 1)) x + ind (V 58 (e / V 55 4)) x = eqV (V 58) (V 55 1) (V 55 4) e x := by
  have hb := ho.b
  have h4 : V 55 4 = V 55 1 := by rcases ho.2.1 with h | h <;> omega
  have d : 0 ≤ e / V 55 1 ∧ e / V 55 1 < V 55 1 := ⟨Int.ediv_nonneg he.1 (by omega), Int.ediv_lt_of_lt_mul (by omega) (by have := ho.2.2; rw [h4] at this; omega)⟩
  unfold eqV
  rw [h4, Int.ediv_eq_zero_of_lt d.1 d.2, Int.ediv_eq_zero_of_lt m.1 m.2]
  omega
theorem eq_w3 {V : VV} {e x : Int} (ho : MO V) (hw : ¬ V 55 2 = 2) (he : 0 ≤ e ∧ e < V 55 3) : (0 : Int) + ind (V 58 e) x - ind (e / V 55 4) x - ind (V 58 (e % V 55 4)) x + ind (V 58 (e / V 55 1)) x - ind (V 58 (e / V 55 1 % V 55 1)) x + ind (V 58 (e / V 55 4)) x = eqV (V 58) (V 55 1) (V 55 4) e x := by
  have hb := ho.b
  have h4 : V 55 4 = V 55 1 * V 55 1 := by rcases ho.2.1 with h | h <;> omega
  have e1 : e / V 55 1 / V 55 1 = e / V 55 4 := by rw [h4, Int.ediv_ediv_of_nonneg (by omega)]
  have e2 : e % V 55 4 / V 55 1 = e / V 55 1 % V 55 1 := by
    have := em_div (g := V 55 1) (y := e) (o := 2) (k := 1) (by omega) (by decide)
    rw [show (2 - 1 : Nat) = 1 from rfl, Int.pow_succ, Int.pow_succ, Int.pow_zero, Int.one_mul] at this
    rw [h4]
    exact this
  unfold eqV
  rw [e1, e2]
  omega
set_option maxHeartbeats 4000000 in
theorem ok_X12_shortens_E {V : VV} {f : Int} (hg : 2 ≤ V 55 1 ∧ V 55 1 ≤ 6) (hf : 0 ≤ f ∧ f + 6 ≤ 6) (hA : ∀ x, 0 ≤ x → x < V 55 1 → ab (V 75 (f + x)) ≤ 9000000000000000000) : Ok NA yX12_shortens cX12_shortens 6 none 1 29 [vA 55, vA 75, vI f] V (pV (fun V' => NRM (V 55 1) (fun y => V 75 (f + y)) (fun y => V' 75 (f + y)) ∧ (∀ j, (j < f ∨ f + V 55 1 ≤ j) → V' 75 j = V 75 j) ∧ fr [75] V V')) := by
  refine Ok.intro (by decide +kernel) (Nat.le_of_ble_eq_true rfl) (fun X G hX hG hR hoa hoV => ?_)
  show J X G 0 [vA 55, vA 75, vI f, vU, vU, vU] [] V
  have hgb := gF_b (v := (fun y => V 75 (f + y))) (b := 9000000000000000000) (V 55 1).toNat (fun x a b => hA x a (by omega)) (by decide)
  have hgn := gF_nn (fun y => V 75 (f + y)) (V 55 1).toNat
  refine j_lconst (x := 0) hX dX12_shortens_0 rfl ⟨by decide, by decide⟩ ?_
  refine j_ls3 hX dX12_shortens_1 rfl ?_
  refine j_iconst hX dX12_shortens_2 ⟨by decide, by decide⟩ ?_
  refine j_is5 hX dX12_shortens_3 rfl ?_
  have lp_5 : ∀ (f9 : Nat) (i : Int), (0 ≤ i ∧ i ≤ V 55 1) → ((V 55 1 - i).toNat) < f9 → J X G 5 [vA 55, vA 75, vI f, vL (gF (fun y => V 75 (f + y)) i.toNat), vU, vI i] [] V := by
    intro f9
    induction f9 with
    | zero => intro i _ hm; exact absurd hm (Nat.not_lt_zero _)
    | succ f9 ih_5 =>
      intro i hi hm
      refine j_il5 hX dX12_shortens_5 ?_
      refine j_al0 hX dX12_shortens_7 rfl ?_
      refine j_getI hX hG fl_X12_136 (Or.inl rfl) (by decide) dX12_shortens_8 ?_
      refine j_fx (x := V 55 1) (by first | assumption | rfl) ?_
      refine j_icmp_ge (tgt := 31) hX dX12_shortens_11 (by decide) (fun h_11 => ?_) (fun h_11 => ?_)
      · skip
        have ei : i = V 55 1 := by omega
        rw [ei]
        refine j_iconst hX dX12_shortens_31 ⟨by decide, by decide⟩ ?_
        refine j_is5 hX dX12_shortens_32 rfl ?_
        have lp_34 : ∀ (f9 : Nat) (i : Int) (Y : VV), (0 ≤ i ∧ i ≤ V 55 1) → (fr [75] V Y) → (∀ x, 0 ≤ x → x < i → Y 75 (f + x) = (V 75 (f + x)).tdiv (gF (fun y => V 75 (f + y)) (V 55 1).toNat)) → (∀ j, (j < f ∨ f + i ≤ j) → Y 75 j = V 75 j) → (gF (fun y => V 75 (f + y)) (V 55 1).toNat ≤ 1 → Y = V) → ((V 55 1 - i).toNat) < f9 → J X G 34 [vA 55, vA 75, vI f, vL (gF (fun y => V 75 (f + y)) (V 55 1).toNat), vU, vI i] [] Y := by
          intro f9
          induction f9 with
          | zero => intro i Y _ _ _ _ _ hm; exact absurd hm (Nat.not_lt_zero _)
          | succ f9 ih_34 =>
            intro i Y hi hs hD hRR hZ hm
            refine j_il5 hX dX12_shortens_34 ?_
            have f1_Y : Y 55 1 = V 55 1 := hs 55 1 (by decide)
            refine j_al0 hX dX12_shortens_36 rfl ?_
            refine j_getI hX hG fl_X12_136 (Or.inl rfl) (by decide) dX12_shortens_37 ?_
            refine j_fx (x := V 55 1) (by first | assumption | rfl) ?_
            refine j_icmp_ge (tgt := 65) hX dX12_shortens_40 (by decide) (fun h_40 => ?_) (fun h_40 => ?_)
            · skip
              exact j_ret hR dX12_shortens_65 (sh_post hgn (by omega) hi.1 hD hRR hs (by first | exact Or.inl ⟨by omega, by omega, by omega⟩ | exact Or.inr ⟨by omega, hZ (by omega)⟩ | exact (if q9 : gF (fun y => V 75 (f + y)) (V 55 1).toNat ≤ 1 then Or.inr ⟨q9, hZ q9⟩ else Or.inl ⟨by omega, by omega, by omega⟩)) (fun x a b => gF_dvd (fun y => V 75 (f + y)) (V 55 1).toNat x a (by omega)) rfl)
            · skip
              refine j_ll3 hX dX12_shortens_43 ?_
              refine j_lconst (x := 1) hX dX12_shortens_44 rfl ⟨by decide, by decide⟩ ?_
              refine j_lcmp_le (tgt := 65) hX dX12_shortens_45 dX12_shortens_46 (by decide) (fun h_46 => ?_) (fun h_46 => ?_)
              · skip
                exact j_ret hR dX12_shortens_65 (sh_post hgn (by omega) hi.1 hD hRR hs (by first | exact Or.inl ⟨by omega, by omega, by omega⟩ | exact Or.inr ⟨by omega, hZ (by omega)⟩ | exact (if q9 : gF (fun y => V 75 (f + y)) (V 55 1).toNat ≤ 1 then Or.inr ⟨q9, hZ q9⟩ else Or.inl ⟨by omega, by omega, by omega⟩)) (fun x a b => gF_dvd (fun y => V 75 (f + y)) (V 55 1).toNat x a (by omega)) rfl)
              · skip
                refine j_al1 hX dX12_shortens_49 rfl ?_
                refine j_il2 hX dX12_shortens_50 ?_
                refine j_il5 hX dX12_shortens_51 ?_
                refine j_iadd hX dX12_shortens_53 (by omega) ?_
                refine j_dup2 hX dX12_shortens_54 rfl rfl ?_
                refine j_lald (n := 6) hX hG (by decide) (by omega) dX12_shortens_55 ?_
                refine j_ll3 hX dX12_shortens_56 ?_
                refine j_ldivT hX dX12_shortens_57 (by omega) ?_
                refine j_last (n := 6) hX hG (by decide) (by omega) dX12_shortens_58 ?_
                refine j_inc5 hX dX12_shortens_59 rfl (by omega) ?_
                refine j_goto (tgt := 34) hX dX12_shortens_62 (by decide) ?_
                exact ih_34 _ _ (by omega) (fr_u hs (by decide)) (lt_stepI (fun x a b => by rw [up_n _ (by omega)]; exact hD x a b) (by rw [up_s, hRR _ (by omega)])) (fun j hj => by rw [up_n _ (by omega)]; exact hRR j (by omega)) (fun q => by omega) (by omega)
        exact lp_34 _ _ _ (by omega) fr_0 (fun x a b => by omega) (fun _ _ => rfl) (fun _ => rfl) (Nat.lt_succ_self _)
      · skip
        have hb1 := NB_e9 (hA i hi.1 (by omega))
        have hgi := gF_b (v := (fun y => V 75 (f + y))) (b := 9000000000000000000) i.toNat (fun x a b => hA x a (by omega)) (by decide)
        have hgj := gF_nn (fun y => V 75 (f + y)) i.toNat
        refine j_ll3 hX dX12_shortens_14 ?_
        refine j_al1 hX dX12_shortens_15 rfl ?_
        refine j_il2 hX dX12_shortens_16 ?_
        refine j_il5 hX dX12_shortens_17 ?_
        refine j_iadd hX dX12_shortens_19 (by omega) ?_
        refine j_lald (n := 6) hX hG (by decide) (by omega) dX12_shortens_20 ?_
        refine j_pSL2 hX hG lk_X12_370 (ok_X12_common (by omega) hb1) (Nat.le_of_ble_eq_true rfl) (Nat.le_of_ble_eq_true rfl) (Nat.le_of_ble_eq_true rfl) rfl dX12_shortens_21 ?_
        refine j_ls3 hX dX12_shortens_24 rfl ?_
        refine j_inc5 hX dX12_shortens_25 rfl (by omega) ?_
        refine j_goto (tgt := 5) hX dX12_shortens_28 (by decide) ?_
        refine j_eqL (ls' := [vA 55, vA 75, vI f, vL (gF (fun y => V 75 (f + y)) (i + 1).toNat), vU, vI (i + 1)]) (by rw [gF_S hi.1]) ?_
        exact ih_5 _ (by omega) (by omega)
  refine j_eqL (ls' := [vA 55, vA 75, vI f, vL (gF (fun y => V 75 (f + y)) (0 : Int).toNat), vU, vI 0]) rfl ?_
  exact lp_5 _ _ (by omega) (Nat.lt_succ_self _)
set_option maxHeartbeats 4000000 in
theorem ok_X12_shortens_S {V : VV} {f : Int} (hg : 2 ≤ V 55 1 ∧ V 55 1 ≤ 6) (hf : 0 ≤ f ∧ f + 6 ≤ 36) (hA : ∀ x, 0 ≤ x → x < V 55 1 → ab (V 76 (f + x)) ≤ 9000000000000000000) : Ok NA yX12_shortens cX12_shortens 6 none 1 29 [vA 55, vA 76, vI f] V (pV (fun V' => NRM (V 55 1) (fun y => V 76 (f + y)) (fun y => V' 76 (f + y)) ∧ (∀ j, (j < f ∨ f + V 55 1 ≤ j) → V' 76 j = V 76 j) ∧ fr [76] V V')) := by
  refine Ok.intro (by decide +kernel) (Nat.le_of_ble_eq_true rfl) (fun X G hX hG hR hoa hoV => ?_)
  show J X G 0 [vA 55, vA 76, vI f, vU, vU, vU] [] V
  have hgb := gF_b (v := (fun y => V 76 (f + y))) (b := 9000000000000000000) (V 55 1).toNat (fun x a b => hA x a (by omega)) (by decide)
  have hgn := gF_nn (fun y => V 76 (f + y)) (V 55 1).toNat
  refine j_lconst (x := 0) hX dX12_shortens_0 rfl ⟨by decide, by decide⟩ ?_
  refine j_ls3 hX dX12_shortens_1 rfl ?_
  refine j_iconst hX dX12_shortens_2 ⟨by decide, by decide⟩ ?_
  refine j_is5 hX dX12_shortens_3 rfl ?_
  have lp_5 : ∀ (f9 : Nat) (i : Int), (0 ≤ i ∧ i ≤ V 55 1) → ((V 55 1 - i).toNat) < f9 → J X G 5 [vA 55, vA 76, vI f, vL (gF (fun y => V 76 (f + y)) i.toNat), vU, vI i] [] V := by
    intro f9
    induction f9 with
    | zero => intro i _ hm; exact absurd hm (Nat.not_lt_zero _)
    | succ f9 ih_5 =>
      intro i hi hm
      refine j_il5 hX dX12_shortens_5 ?_
      refine j_al0 hX dX12_shortens_7 rfl ?_
      refine j_getI hX hG fl_X12_136 (Or.inl rfl) (by decide) dX12_shortens_8 ?_
      refine j_fx (x := V 55 1) (by first | assumption | rfl) ?_
      refine j_icmp_ge (tgt := 31) hX dX12_shortens_11 (by decide) (fun h_11 => ?_) (fun h_11 => ?_)
      · skip
        have ei : i = V 55 1 := by omega
        rw [ei]
        refine j_iconst hX dX12_shortens_31 ⟨by decide, by decide⟩ ?_
        refine j_is5 hX dX12_shortens_32 rfl ?_
        have lp_34 : ∀ (f9 : Nat) (i : Int) (Y : VV), (0 ≤ i ∧ i ≤ V 55 1) → (fr [76] V Y) → (∀ x, 0 ≤ x → x < i → Y 76 (f + x) = (V 76 (f + x)).tdiv (gF (fun y => V 76 (f + y)) (V 55 1).toNat)) → (∀ j, (j < f ∨ f + i ≤ j) → Y 76 j = V 76 j) → (gF (fun y => V 76 (f + y)) (V 55 1).toNat ≤ 1 → Y = V) → ((V 55 1 - i).toNat) < f9 → J X G 34 [vA 55, vA 76, vI f, vL (gF (fun y => V 76 (f + y)) (V 55 1).toNat), vU, vI i] [] Y := by
          intro f9
          induction f9 with
          | zero => intro i Y _ _ _ _ _ hm; exact absurd hm (Nat.not_lt_zero _)
          | succ f9 ih_34 =>
            intro i Y hi hs hD hRR hZ hm
            refine j_il5 hX dX12_shortens_34 ?_
            have f1_Y : Y 55 1 = V 55 1 := hs 55 1 (by decide)
            refine j_al0 hX dX12_shortens_36 rfl ?_
            refine j_getI hX hG fl_X12_136 (Or.inl rfl) (by decide) dX12_shortens_37 ?_
            refine j_fx (x := V 55 1) (by first | assumption | rfl) ?_
            refine j_icmp_ge (tgt := 65) hX dX12_shortens_40 (by decide) (fun h_40 => ?_) (fun h_40 => ?_)
            · skip
              exact j_ret hR dX12_shortens_65 (sh_post hgn (by omega) hi.1 hD hRR hs (by first | exact Or.inl ⟨by omega, by omega, by omega⟩ | exact Or.inr ⟨by omega, hZ (by omega)⟩ | exact (if q9 : gF (fun y => V 76 (f + y)) (V 55 1).toNat ≤ 1 then Or.inr ⟨q9, hZ q9⟩ else Or.inl ⟨by omega, by omega, by omega⟩)) (fun x a b => gF_dvd (fun y => V 76 (f + y)) (V 55 1).toNat x a (by omega)) rfl)
            · skip
              refine j_ll3 hX dX12_shortens_43 ?_
              refine j_lconst (x := 1) hX dX12_shortens_44 rfl ⟨by decide, by decide⟩ ?_
              refine j_lcmp_le (tgt := 65) hX dX12_shortens_45 dX12_shortens_46 (by decide) (fun h_46 => ?_) (fun h_46 => ?_)
              · skip
                exact j_ret hR dX12_shortens_65 (sh_post hgn (by omega) hi.1 hD hRR hs (by first | exact Or.inl ⟨by omega, by omega, by omega⟩ | exact Or.inr ⟨by omega, hZ (by omega)⟩ | exact (if q9 : gF (fun y => V 76 (f + y)) (V 55 1).toNat ≤ 1 then Or.inr ⟨q9, hZ q9⟩ else Or.inl ⟨by omega, by omega, by omega⟩)) (fun x a b => gF_dvd (fun y => V 76 (f + y)) (V 55 1).toNat x a (by omega)) rfl)
              · skip
                refine j_al1 hX dX12_shortens_49 rfl ?_
                refine j_il2 hX dX12_shortens_50 ?_
                refine j_il5 hX dX12_shortens_51 ?_
                refine j_iadd hX dX12_shortens_53 (by omega) ?_
                refine j_dup2 hX dX12_shortens_54 rfl rfl ?_
                refine j_lald (n := 36) hX hG (by decide) (by omega) dX12_shortens_55 ?_
                refine j_ll3 hX dX12_shortens_56 ?_
                refine j_ldivT hX dX12_shortens_57 (by omega) ?_
                refine j_last (n := 36) hX hG (by decide) (by omega) dX12_shortens_58 ?_
                refine j_inc5 hX dX12_shortens_59 rfl (by omega) ?_
                refine j_goto (tgt := 34) hX dX12_shortens_62 (by decide) ?_
                exact ih_34 _ _ (by omega) (fr_u hs (by decide)) (lt_stepI (fun x a b => by rw [up_n _ (by omega)]; exact hD x a b) (by rw [up_s, hRR _ (by omega)])) (fun j hj => by rw [up_n _ (by omega)]; exact hRR j (by omega)) (fun q => by omega) (by omega)
        exact lp_34 _ _ _ (by omega) fr_0 (fun x a b => by omega) (fun _ _ => rfl) (fun _ => rfl) (Nat.lt_succ_self _)
      · skip
        have hb1 := NB_e9 (hA i hi.1 (by omega))
        have hgi := gF_b (v := (fun y => V 76 (f + y))) (b := 9000000000000000000) i.toNat (fun x a b => hA x a (by omega)) (by decide)
        have hgj := gF_nn (fun y => V 76 (f + y)) i.toNat
        refine j_ll3 hX dX12_shortens_14 ?_
        refine j_al1 hX dX12_shortens_15 rfl ?_
        refine j_il2 hX dX12_shortens_16 ?_
        refine j_il5 hX dX12_shortens_17 ?_
        refine j_iadd hX dX12_shortens_19 (by omega) ?_
        refine j_lald (n := 36) hX hG (by decide) (by omega) dX12_shortens_20 ?_
        refine j_pSL2 hX hG lk_X12_370 (ok_X12_common (by omega) hb1) (Nat.le_of_ble_eq_true rfl) (Nat.le_of_ble_eq_true rfl) (Nat.le_of_ble_eq_true rfl) rfl dX12_shortens_21 ?_
        refine j_ls3 hX dX12_shortens_24 rfl ?_
        refine j_inc5 hX dX12_shortens_25 rfl (by omega) ?_
        refine j_goto (tgt := 5) hX dX12_shortens_28 (by decide) ?_
        refine j_eqL (ls' := [vA 55, vA 76, vI f, vL (gF (fun y => V 76 (f + y)) (i + 1).toNat), vU, vI (i + 1)]) (by rw [gF_S hi.1]) ?_
        exact ih_5 _ (by omega) (by omega)
  refine j_eqL (ls' := [vA 55, vA 76, vI f, vL (gF (fun y => V 76 (f + y)) (0 : Int).toNat), vU, vI 0]) rfl ?_
  exact lp_5 _ _ (by omega) (Nat.lt_succ_self _)
set_option maxHeartbeats 4000000 in
theorem ok_X12_puts_E {V : VV} {f k a b : Int} (hg : 2 ≤ V 55 1 ∧ V 55 1 ≤ 6) (hf : 0 ≤ f ∧ f + 6 ≤ 6) (hk : 0 ≤ k ∧ k < V 55 1) (hA : ∀ x, 0 ≤ x → x < V 55 1 → ab (V 75 (f + x)) ≤ a) (hBb : ∀ x, 0 ≤ x → x < V 55 1 → ab (V 76 (6 * k + x)) ≤ b) (hab : a * b ≤ 3000000000000000000) : Ok NA yX12_puts cX12_puts 9 none 0 0 [vA 55, vA 75, vI f, vI k] V (pV (fun V' => ((V 75 (f + k) = 0 ∧ V' = V) ∨ (V 75 (f + k) ≠ 0 ∧ ∀ x, 0 ≤ x → x < V 55 1 → V' 75 (f + x) = elm (fun y => V 75 (f + y)) (fun y => V 76 (6 * k + y)) k x)) ∧ (∀ j, (j < f ∨ f + V 55 1 ≤ j) → V' 75 j = V 75 j) ∧ fr [75] V V')) := by
  refine Ok.intro (by decide +kernel) (Nat.le_of_ble_eq_true rfl) (fun X G hX hG hR hoa hoV => ?_)
  show J X G 0 [vA 55, vA 75, vI f, vI k, vU, vU, vU, vU, vU] [] V
  refine j_al1 hX dX12_puts_0 rfl ?_
  refine j_il2 hX dX12_puts_1 ?_
  refine j_il3 hX dX12_puts_2 ?_
  refine j_iadd hX dX12_puts_3 (by omega) ?_
  refine j_lald (n := 6) hX hG (by decide) (by omega) dX12_puts_4 ?_
  refine j_ls4 hX dX12_puts_5 rfl ?_
  refine j_al0 hX dX12_puts_7 rfl ?_
  refine j_getR (q := 76) hX hG fl_X12_77 rfl rfl (by decide) dX12_puts_8 ?_
  refine j_bipush hX dX12_puts_11 (by decide) ⟨by decide, by decide⟩ ?_
  refine j_il3 hX dX12_puts_13 ?_
  refine j_imul hX dX12_puts_14 (by omega) ?_
  refine j_il3 hX dX12_puts_15 ?_
  refine j_iadd hX dX12_puts_16 (by omega) ?_
  refine j_lald (n := 36) hX hG (by decide) (by omega) dX12_puts_17 ?_
  refine j_ls6 hX dX12_puts_18 rfl ?_
  refine j_iconst hX dX12_puts_20 ⟨by decide, by decide⟩ ?_
  refine j_is8 hX dX12_puts_21 rfl ?_
  have lp_23 : ∀ (f9 : Nat) (i : Int) (Y : VV), (0 ≤ i ∧ i ≤ V 55 1) → (fr [75] V Y) → (∀ x, 0 ≤ x → x < i → Y 75 (f + x) = elm (fun y => V 75 (f + y)) (fun y => V 76 (6 * k + y)) k x) → (∀ j, (j < f ∨ f + i ≤ j) → Y 75 j = V 75 j) → (V 75 (f + k) = 0 → Y = V) → ((V 55 1 - i).toNat) < f9 → J X G 23 [vA 55, vA 75, vI f, vI k, vL (V 75 (f + k)), vU, vL (V 76 (6 * k + k)), vU, vI i] [] Y := by
    intro f9
    induction f9 with
    | zero => intro i Y _ _ _ _ _ hm; exact absurd hm (Nat.not_lt_zero _)
    | succ f9 ih_23 =>
      intro i Y hi hs hD hRR hZ hm
      refine j_il8 hX dX12_puts_23 ?_
      have f1_Y : Y 55 1 = V 55 1 := hs 55 1 (by decide)
      refine j_al0 hX dX12_puts_25 rfl ?_
      refine j_getI hX hG fl_X12_136 (Or.inl rfl) (by decide) dX12_puts_26 ?_
      refine j_fx (x := V 55 1) (by first | assumption | rfl) ?_
      refine j_icmp_ge (tgt := 76) hX dX12_puts_29 (by decide) (fun h_29 => ?_) (fun h_29 => ?_)
      · skip
        exact j_ret hR dX12_puts_76 ⟨(if q9 : V 75 (f + k) = 0 then Or.inl ⟨q9, hZ q9⟩ else Or.inr ⟨q9, fun x a b => hD x a (by omega)⟩), fun j hj => hRR j (by omega), hs⟩
      · skip
        refine j_ll4 hX dX12_puts_32 ?_
        refine j_lconst (x := 0) hX dX12_puts_34 rfl ⟨by decide, by decide⟩ ?_
        refine j_lcmp_eq (tgt := 76) hX dX12_puts_35 dX12_puts_36 (by decide) (fun h_36 => ?_) (fun h_36 => ?_)
        · skip
          exact j_ret hR dX12_puts_76 ⟨(if q9 : V 75 (f + k) = 0 then Or.inl ⟨q9, hZ q9⟩ else Or.inr ⟨q9, fun x a b => hD x a (by omega)⟩), fun j hj => hRR j (by omega), hs⟩
        · skip
          have p1 := mb9 (hA i hi.1 (by omega)) (hBb k hk.1 hk.2) hab
          have p2 := mb9 (hA k hk.1 hk.2) (hBb i hi.1 (by omega)) hab
          have pe_c : V 75 (f + i) * V 76 (6 * k + k) - V 75 (f + k) * V 76 (6 * k + i) = elm (fun y => V 75 (f + y)) (fun y => V 76 (6 * k + y)) k i := by show _ = V 75 (f + i) * V 76 (6 * k + k) - V 76 (6 * k + i) * V 75 (f + k); rw [Int.mul_comm (V 75 (f + k))]
          refine j_al1 hX dX12_puts_39 rfl ?_
          refine j_il2 hX dX12_puts_40 ?_
          refine j_il8 hX dX12_puts_41 ?_
          refine j_iadd hX dX12_puts_43 (by omega) ?_
          refine j_al1 hX dX12_puts_44 rfl ?_
          refine j_il2 hX dX12_puts_45 ?_
          refine j_il8 hX dX12_puts_46 ?_
          refine j_iadd hX dX12_puts_48 (by omega) ?_
          refine j_lald (n := 6) hX hG (by decide) (by omega) dX12_puts_49 ?_
          refine j_eqS (st' := [vL (V 75 (f + i)), vI (f + i), vA 75]) (by rw [hRR _ (by omega)]) ?_
          refine j_ll6 hX dX12_puts_50 ?_
          refine j_lmul hX dX12_puts_52 (by omega) ?_
          refine j_ll4 hX dX12_puts_53 ?_
          refine j_al0 hX dX12_puts_55 rfl ?_
          refine j_getR (q := 76) hX hG fl_X12_77 rfl rfl (by decide) dX12_puts_56 ?_
          refine j_bipush hX dX12_puts_59 (by decide) ⟨by decide, by decide⟩ ?_
          refine j_il3 hX dX12_puts_61 ?_
          refine j_imul hX dX12_puts_62 (by omega) ?_
          refine j_il8 hX dX12_puts_63 ?_
          refine j_iadd hX dX12_puts_65 (by omega) ?_
          refine j_lald (n := 36) hX hG (by decide) (by omega) dX12_puts_66 ?_
          refine j_eqS (st' := [vL (V 76 (6 * k + i)), vL (V 75 (f + k)), vL (V 75 (f + i) * V 76 (6 * k + k)), vI (f + i), vA 75]) (by rw [(hs 76 _ (by decide))]) ?_
          refine j_lmul hX dX12_puts_67 (by omega) ?_
          refine j_lsub hX dX12_puts_68 (by omega) ?_
          refine j_last (n := 6) hX hG (by decide) (by omega) dX12_puts_69 ?_
          refine j_inc8 hX dX12_puts_70 rfl (by omega) ?_
          refine j_goto (tgt := 23) hX dX12_puts_73 (by decide) ?_
          exact ih_23 _ _ (by omega) (fr_u hs (by decide)) (lt_stepI (fun x a b => by rw [up_n _ (by omega)]; exact hD x a b) (by rw [up_s]; exact pe_c)) (fun j hj => by rw [up_n _ (by omega)]; exact hRR j (by omega)) (fun q => absurd q h_36) (by omega)
  exact lp_23 _ _ _ (by omega) fr_0 (fun x a b => by omega) (fun _ _ => rfl) (fun _ => rfl) (Nat.lt_succ_self _)
set_option maxHeartbeats 4000000 in
theorem ok_X12_puts_S {V : VV} {f k a b : Int} (hg : 2 ≤ V 55 1 ∧ V 55 1 ≤ 6) (hf : 0 ≤ f ∧ f + 6 ≤ 36) (hk : 0 ≤ k ∧ k < V 55 1) (hA : ∀ x, 0 ≤ x → x < V 55 1 → ab (V 76 (f + x)) ≤ a) (hBb : ∀ x, 0 ≤ x → x < V 55 1 → ab (V 76 (6 * k + x)) ≤ b) (hab : a * b ≤ 3000000000000000000) (hd9 : f + 6 ≤ 6 * k ∨ 6 * k + 6 ≤ f) : Ok NA yX12_puts cX12_puts 9 none 0 0 [vA 55, vA 76, vI f, vI k] V (pV (fun V' => ((V 76 (f + k) = 0 ∧ V' = V) ∨ (V 76 (f + k) ≠ 0 ∧ ∀ x, 0 ≤ x → x < V 55 1 → V' 76 (f + x) = elm (fun y => V 76 (f + y)) (fun y => V 76 (6 * k + y)) k x)) ∧ (∀ j, (j < f ∨ f + V 55 1 ≤ j) → V' 76 j = V 76 j) ∧ fr [76] V V')) := by
  refine Ok.intro (by decide +kernel) (Nat.le_of_ble_eq_true rfl) (fun X G hX hG hR hoa hoV => ?_)
  show J X G 0 [vA 55, vA 76, vI f, vI k, vU, vU, vU, vU, vU] [] V
  refine j_al1 hX dX12_puts_0 rfl ?_
  refine j_il2 hX dX12_puts_1 ?_
  refine j_il3 hX dX12_puts_2 ?_
  refine j_iadd hX dX12_puts_3 (by omega) ?_
  refine j_lald (n := 36) hX hG (by decide) (by omega) dX12_puts_4 ?_
  refine j_ls4 hX dX12_puts_5 rfl ?_
  refine j_al0 hX dX12_puts_7 rfl ?_
  refine j_getR (q := 76) hX hG fl_X12_77 rfl rfl (by decide) dX12_puts_8 ?_
  refine j_bipush hX dX12_puts_11 (by decide) ⟨by decide, by decide⟩ ?_
  refine j_il3 hX dX12_puts_13 ?_
  refine j_imul hX dX12_puts_14 (by omega) ?_
  refine j_il3 hX dX12_puts_15 ?_
  refine j_iadd hX dX12_puts_16 (by omega) ?_
  refine j_lald (n := 36) hX hG (by decide) (by omega) dX12_puts_17 ?_
  refine j_ls6 hX dX12_puts_18 rfl ?_
  refine j_iconst hX dX12_puts_20 ⟨by decide, by decide⟩ ?_
  refine j_is8 hX dX12_puts_21 rfl ?_
  have lp_23 : ∀ (f9 : Nat) (i : Int) (Y : VV), (0 ≤ i ∧ i ≤ V 55 1) → (fr [76] V Y) → (∀ x, 0 ≤ x → x < i → Y 76 (f + x) = elm (fun y => V 76 (f + y)) (fun y => V 76 (6 * k + y)) k x) → (∀ j, (j < f ∨ f + i ≤ j) → Y 76 j = V 76 j) → (V 76 (f + k) = 0 → Y = V) → ((V 55 1 - i).toNat) < f9 → J X G 23 [vA 55, vA 76, vI f, vI k, vL (V 76 (f + k)), vU, vL (V 76 (6 * k + k)), vU, vI i] [] Y := by
    intro f9
    induction f9 with
    | zero => intro i Y _ _ _ _ _ hm; exact absurd hm (Nat.not_lt_zero _)
    | succ f9 ih_23 =>
      intro i Y hi hs hD hRR hZ hm
      refine j_il8 hX dX12_puts_23 ?_
      have f1_Y : Y 55 1 = V 55 1 := hs 55 1 (by decide)
      refine j_al0 hX dX12_puts_25 rfl ?_
      refine j_getI hX hG fl_X12_136 (Or.inl rfl) (by decide) dX12_puts_26 ?_
      refine j_fx (x := V 55 1) (by first | assumption | rfl) ?_
      refine j_icmp_ge (tgt := 76) hX dX12_puts_29 (by decide) (fun h_29 => ?_) (fun h_29 => ?_)
      · skip
        exact j_ret hR dX12_puts_76 ⟨(if q9 : V 76 (f + k) = 0 then Or.inl ⟨q9, hZ q9⟩ else Or.inr ⟨q9, fun x a b => hD x a (by omega)⟩), fun j hj => hRR j (by omega), hs⟩
      · skip
        refine j_ll4 hX dX12_puts_32 ?_
        refine j_lconst (x := 0) hX dX12_puts_34 rfl ⟨by decide, by decide⟩ ?_
        refine j_lcmp_eq (tgt := 76) hX dX12_puts_35 dX12_puts_36 (by decide) (fun h_36 => ?_) (fun h_36 => ?_)
        · skip
          exact j_ret hR dX12_puts_76 ⟨(if q9 : V 76 (f + k) = 0 then Or.inl ⟨q9, hZ q9⟩ else Or.inr ⟨q9, fun x a b => hD x a (by omega)⟩), fun j hj => hRR j (by omega), hs⟩
        · skip
          have p1 := mb9 (hA i hi.1 (by omega)) (hBb k hk.1 hk.2) hab
          have p2 := mb9 (hA k hk.1 hk.2) (hBb i hi.1 (by omega)) hab
          have pe_c : V 76 (f + i) * V 76 (6 * k + k) - V 76 (f + k) * V 76 (6 * k + i) = elm (fun y => V 76 (f + y)) (fun y => V 76 (6 * k + y)) k i := by show _ = V 76 (f + i) * V 76 (6 * k + k) - V 76 (6 * k + i) * V 76 (f + k); rw [Int.mul_comm (V 76 (f + k))]
          refine j_al1 hX dX12_puts_39 rfl ?_
          refine j_il2 hX dX12_puts_40 ?_
          refine j_il8 hX dX12_puts_41 ?_
          refine j_iadd hX dX12_puts_43 (by omega) ?_
          refine j_al1 hX dX12_puts_44 rfl ?_
          refine j_il2 hX dX12_puts_45 ?_
          refine j_il8 hX dX12_puts_46 ?_
          refine j_iadd hX dX12_puts_48 (by omega) ?_
          refine j_lald (n := 36) hX hG (by decide) (by omega) dX12_puts_49 ?_
          refine j_eqS (st' := [vL (V 76 (f + i)), vI (f + i), vA 76]) (by rw [hRR _ (by omega)]) ?_
          refine j_ll6 hX dX12_puts_50 ?_
          refine j_lmul hX dX12_puts_52 (by omega) ?_
          refine j_ll4 hX dX12_puts_53 ?_
          refine j_al0 hX dX12_puts_55 rfl ?_
          refine j_getR (q := 76) hX hG fl_X12_77 rfl rfl (by decide) dX12_puts_56 ?_
          refine j_bipush hX dX12_puts_59 (by decide) ⟨by decide, by decide⟩ ?_
          refine j_il3 hX dX12_puts_61 ?_
          refine j_imul hX dX12_puts_62 (by omega) ?_
          refine j_il8 hX dX12_puts_63 ?_
          refine j_iadd hX dX12_puts_65 (by omega) ?_
          refine j_lald (n := 36) hX hG (by decide) (by omega) dX12_puts_66 ?_
          refine j_eqS (st' := [vL (V 76 (6 * k + i)), vL (V 76 (f + k)), vL (V 76 (f + i) * V 76 (6 * k + k)), vI (f + i), vA 76]) (by rw [(hRR _ (by omega))]) ?_
          refine j_lmul hX dX12_puts_67 (by omega) ?_
          refine j_lsub hX dX12_puts_68 (by omega) ?_
          refine j_last (n := 36) hX hG (by decide) (by omega) dX12_puts_69 ?_
          refine j_inc8 hX dX12_puts_70 rfl (by omega) ?_
          refine j_goto (tgt := 23) hX dX12_puts_73 (by decide) ?_
          exact ih_23 _ _ (by omega) (fr_u hs (by decide)) (lt_stepI (fun x a b => by rw [up_n _ (by omega)]; exact hD x a b) (by rw [up_s]; exact pe_c)) (fun j hj => by rw [up_n _ (by omega)]; exact hRR j (by omega)) (fun q => absurd q h_36) (by omega)
  exact lp_23 _ _ _ (by omega) fr_0 (fun x a b => by omega) (fun _ _ => rfl) (fun _ => rfl) (Nat.lt_succ_self _)
set_option maxHeartbeats 4000000 in
theorem ok_X12_laysEquation {V : VV} {e : Int} (hmo : MO V) (htm : TRM V) (he : 0 ≤ e ∧ e < V 55 3) : Ok NA yX12_laysEquation cX12_laysEquation 3 none 0 0 [vA 55, vI e] V (pV (fun V' => (∀ x, 0 ≤ x → x < V 55 1 → V' 75 x = eqV (V 58) (V 55 1) (V 55 4) e x) ∧ fr [75] V V')) := by
  refine Ok.intro (by decide +kernel) (Nat.le_of_ble_eq_true rfl) (fun X G hX hG hR hoa hoV => ?_)
  show J X G 0 [vA 55, vI e, vU] [] V
  have hb9 := hmo.b
  have hnN := MO.le hmo
  refine j_iconst hX dX12_laysEquation_0 ⟨by decide, by decide⟩ ?_
  refine j_is2 hX dX12_laysEquation_1 rfl ?_
  have lp_2 : ∀ (f9 : Nat) (k : Int) (Y : VV), (0 ≤ k ∧ k ≤ V 55 1) → (fr [75] V Y) → (∀ x, 0 ≤ x → x < k → Y 75 x = 0) → ((V 55 1 - k).toNat) < f9 → J X G 2 [vA 55, vI e, vI k] [] Y := by
    intro f9
    induction f9 with
    | zero => intro k Y _ _ _ hm; exact absurd hm (Nat.not_lt_zero _)
    | succ f9 ih_2 =>
      intro k Y hk hs hD hm
      refine j_il2 hX dX12_laysEquation_2 ?_
      have f1_Y : Y 55 1 = V 55 1 := hs 55 1 (by decide)
      refine j_al0 hX dX12_laysEquation_3 rfl ?_
      refine j_getI hX hG fl_X12_136 (Or.inl rfl) (by decide) dX12_laysEquation_4 ?_
      refine j_fx (x := V 55 1) (by first | assumption | rfl) ?_
      refine j_icmp_ge (tgt := 23) hX dX12_laysEquation_7 (by decide) (fun h_7 => ?_) (fun h_7 => ?_)
      · skip
        have s7 : k = V 55 1 := by omega
        have q23 : EQn (V 55 1) Y (fun x => (0 : Int)) 0 := fun x a b => ⟨hD x a (by omega), Int.le_refl _, Int.le_refl _⟩
        have f4_Y : Y 55 4 = V 55 4 := hs 55 4 (by decide)
        have x4 : 0 ≤ e / V 55 4 ∧ e / V 55 4 < V 55 1 := ⟨Int.ediv_nonneg he.1 (by omega), Int.ediv_lt_of_lt_mul (by omega) (by rw [Int.mul_comm, ← hmo.2.2]; exact he.2)⟩
        have t0 := htm e he.1 he.2
        have m1 := md_b e (n := V 55 1) (by omega)
        have m4 := md_b e (n := V 55 4) (by omega)
        have d1 : 0 ≤ e / V 55 1 ∧ e / V 55 1 < V 55 4 := ⟨Int.ediv_nonneg he.1 (by omega), Int.ediv_lt_of_lt_mul (by omega) (by rw [← hmo.2.2]; exact he.2)⟩
        have m5 := md_b (e / V 55 1) (n := V 55 1) (by omega)
        refine j_il1 hX dX12_laysEquation_23 ?_
        refine j_al0 hX dX12_laysEquation_24 rfl ?_
        refine j_getI hX hG fl_X12_145 (Or.inl rfl) (by decide) dX12_laysEquation_25 ?_
        refine j_fx (x := V 55 4) (by first | assumption | rfl) ?_
        refine j_idiv hX dX12_laysEquation_28 (by omega) he.1 ?_
        refine j_is2 hX dX12_laysEquation_29 rfl ?_
        refine j_al0 hX dX12_laysEquation_30 rfl ?_
        refine j_getR (q := 75) hX hG fl_X12_73 rfl rfl (by decide) dX12_laysEquation_31 ?_
        refine j_al0 hX dX12_laysEquation_34 rfl ?_
        refine j_getR (q := 58) hX hG fl_X12_16 rfl rfl (by decide) dX12_laysEquation_35 ?_
        refine j_il1 hX dX12_laysEquation_38 ?_
        refine j_iald (n := 216) hX hG (by decide) (by omega) dX12_laysEquation_39 ?_
        refine j_eqS (st' := [vI (V 58 e), vA 75]) (by rw [hs 58 _ (by decide)]) ?_
        refine j_dup2 hX dX12_laysEquation_40 rfl rfl ?_
        refine j_lald (n := 6) hX hG (by decide) (by omega) dX12_laysEquation_41 ?_
        refine j_lconst (x := 1) hX dX12_laysEquation_42 rfl ⟨by decide, by decide⟩ ?_
        refine j_ladd hX dX12_laysEquation_43 (by have h9 := q23 (V 58 e) (by omega) (by omega); omega) ?_
        refine j_last (n := 6) hX hG (by decide) (by omega) dX12_laysEquation_44 ?_
        generalize hE45 : up _ 75 _ _ = E45
        have q45 : EQn (V 55 1) E45 (fun x => (0 : Int) + ind (V 58 e) x) 1 := by rw [← hE45]; exact EQn_a q23 t0
        have r45 : fr [75] V E45 := by rw [← hE45]; exact fr_u hs (by decide)
        clear hE45
        refine j_al0 hX dX12_laysEquation_45 rfl ?_
        refine j_getR (q := 75) hX hG fl_X12_73 rfl rfl (by decide) dX12_laysEquation_46 ?_
        refine j_il2 hX dX12_laysEquation_49 ?_
        refine j_dup2 hX dX12_laysEquation_50 rfl rfl ?_
        refine j_lald (n := 6) hX hG (by decide) (by omega) dX12_laysEquation_51 ?_
        refine j_lconst (x := 1) hX dX12_laysEquation_52 rfl ⟨by decide, by decide⟩ ?_
        refine j_lsub hX dX12_laysEquation_53 (by have h9 := q45 (e / V 55 4) (by omega) (by omega); omega) ?_
        refine j_last (n := 6) hX hG (by decide) (by omega) dX12_laysEquation_54 ?_
        generalize hE55 : up _ 75 _ _ = E55
        have q55 : EQn (V 55 1) E55 (fun x => (0 : Int) + ind (V 58 e) x - ind (e / V 55 4) x) 2 := by rw [← hE55]; exact EQn_s q45 x4
        have r55 : fr [75] V E55 := by rw [← hE55]; exact fr_u r45 (by decide)
        clear hE55
        have f2_E55 : E55 55 2 = V 55 2 := r55 55 2 (by decide)
        have f1_E55 : E55 55 1 = V 55 1 := r55 55 1 (by decide)
        have f4_E55 : E55 55 4 = V 55 4 := r55 55 4 (by decide)
        refine j_al0 hX dX12_laysEquation_55 rfl ?_
        refine j_getI hX hG fl_X12_139 (Or.inl rfl) (by decide) dX12_laysEquation_56 ?_
        refine j_fx (x := V 55 2) (by first | assumption | rfl) ?_
        refine j_iconst hX dX12_laysEquation_59 ⟨by decide, by decide⟩ ?_
        refine j_icmp_ne (tgt := 101) hX dX12_laysEquation_60 (by decide) (fun h_60 => ?_) (fun h_60 => ?_)
        · skip
          have t1 := htm (e % V 55 4) m4.1 (by omega)
          have t4 := htm (e / V 55 4) x4.1 (by omega)
          have t2 := htm (e / V 55 1) d1.1 (by omega)
          have t3 := htm (e / V 55 1 % V 55 1) m5.1 (by omega)
          refine j_al0 hX dX12_laysEquation_101 rfl ?_
          refine j_getR (q := 75) hX hG fl_X12_73 rfl rfl (by decide) dX12_laysEquation_102 ?_
          refine j_al0 hX dX12_laysEquation_105 rfl ?_
          refine j_getR (q := 58) hX hG fl_X12_16 rfl rfl (by decide) dX12_laysEquation_106 ?_
          refine j_il1 hX dX12_laysEquation_109 ?_
          refine j_al0 hX dX12_laysEquation_110 rfl ?_
          refine j_getI hX hG fl_X12_145 (Or.inl rfl) (by decide) dX12_laysEquation_111 ?_
          refine j_fx (x := V 55 4) (by first | assumption | rfl) ?_
          refine j_irem hX dX12_laysEquation_114 (by omega) he.1 ?_
          refine j_iald (n := 216) hX hG (by decide) (by omega) dX12_laysEquation_115 ?_
          refine j_eqS (st' := [vI (V 58 (e % V 55 4)), vA 75]) (by rw [r55 58 _ (by decide)]) ?_
          refine j_dup2 hX dX12_laysEquation_116 rfl rfl ?_
          refine j_lald (n := 6) hX hG (by decide) (by omega) dX12_laysEquation_117 ?_
          refine j_lconst (x := 1) hX dX12_laysEquation_118 rfl ⟨by decide, by decide⟩ ?_
          refine j_lsub hX dX12_laysEquation_119 (by have h9 := q55 (V 58 (e % V 55 4)) (by omega) (by omega); omega) ?_
          refine j_last (n := 6) hX hG (by decide) (by omega) dX12_laysEquation_120 ?_
          generalize hE121 : up _ 75 _ _ = E121
          have q121 : EQn (V 55 1) E121 (fun x => (0 : Int) + ind (V 58 e) x - ind (e / V 55 4) x - ind (V 58 (e % V 55 4)) x) 3 := by rw [← hE121]; exact EQn_s q55 t1
          have r121 : fr [75] V E121 := by rw [← hE121]; exact fr_u r55 (by decide)
          clear hE121
          have f1_E121 : E121 55 1 = V 55 1 := r121 55 1 (by decide)
          refine j_al0 hX dX12_laysEquation_121 rfl ?_
          refine j_getR (q := 75) hX hG fl_X12_73 rfl rfl (by decide) dX12_laysEquation_122 ?_
          refine j_al0 hX dX12_laysEquation_125 rfl ?_
          refine j_getR (q := 58) hX hG fl_X12_16 rfl rfl (by decide) dX12_laysEquation_126 ?_
          refine j_il1 hX dX12_laysEquation_129 ?_
          refine j_al0 hX dX12_laysEquation_130 rfl ?_
          refine j_getI hX hG fl_X12_136 (Or.inl rfl) (by decide) dX12_laysEquation_131 ?_
          refine j_fx (x := V 55 1) (by first | assumption | rfl) ?_
          refine j_idiv hX dX12_laysEquation_134 (by omega) he.1 ?_
          refine j_iald (n := 216) hX hG (by decide) (by omega) dX12_laysEquation_135 ?_
          refine j_eqS (st' := [vI (V 58 (e / V 55 1)), vA 75]) (by rw [r121 58 _ (by decide)]) ?_
          refine j_dup2 hX dX12_laysEquation_136 rfl rfl ?_
          refine j_lald (n := 6) hX hG (by decide) (by omega) dX12_laysEquation_137 ?_
          refine j_lconst (x := 1) hX dX12_laysEquation_138 rfl ⟨by decide, by decide⟩ ?_
          refine j_ladd hX dX12_laysEquation_139 (by have h9 := q121 (V 58 (e / V 55 1)) (by omega) (by omega); omega) ?_
          refine j_last (n := 6) hX hG (by decide) (by omega) dX12_laysEquation_140 ?_
          generalize hE141 : up _ 75 _ _ = E141
          have q141 : EQn (V 55 1) E141 (fun x => (0 : Int) + ind (V 58 e) x - ind (e / V 55 4) x - ind (V 58 (e % V 55 4)) x + ind (V 58 (e / V 55 1)) x) 4 := by rw [← hE141]; exact EQn_a q121 t2
          have r141 : fr [75] V E141 := by rw [← hE141]; exact fr_u r121 (by decide)
          clear hE141
          have f1_E141 : E141 55 1 = V 55 1 := r141 55 1 (by decide)
          refine j_al0 hX dX12_laysEquation_141 rfl ?_
          refine j_getR (q := 75) hX hG fl_X12_73 rfl rfl (by decide) dX12_laysEquation_142 ?_
          refine j_al0 hX dX12_laysEquation_145 rfl ?_
          refine j_getR (q := 58) hX hG fl_X12_16 rfl rfl (by decide) dX12_laysEquation_146 ?_
          refine j_il1 hX dX12_laysEquation_149 ?_
          refine j_al0 hX dX12_laysEquation_150 rfl ?_
          refine j_getI hX hG fl_X12_136 (Or.inl rfl) (by decide) dX12_laysEquation_151 ?_
          refine j_fx (x := V 55 1) (by first | assumption | rfl) ?_
          refine j_idiv hX dX12_laysEquation_154 (by omega) he.1 ?_
          refine j_al0 hX dX12_laysEquation_155 rfl ?_
          refine j_getI hX hG fl_X12_136 (Or.inl rfl) (by decide) dX12_laysEquation_156 ?_
          refine j_fx (x := V 55 1) (by first | assumption | rfl) ?_
          refine j_irem hX dX12_laysEquation_159 (by omega) d1.1 ?_
          refine j_iald (n := 216) hX hG (by decide) (by omega) dX12_laysEquation_160 ?_
          refine j_eqS (st' := [vI (V 58 (e / V 55 1 % V 55 1)), vA 75]) (by rw [r141 58 _ (by decide)]) ?_
          refine j_dup2 hX dX12_laysEquation_161 rfl rfl ?_
          refine j_lald (n := 6) hX hG (by decide) (by omega) dX12_laysEquation_162 ?_
          refine j_lconst (x := 1) hX dX12_laysEquation_163 rfl ⟨by decide, by decide⟩ ?_
          refine j_lsub hX dX12_laysEquation_164 (by have h9 := q141 (V 58 (e / V 55 1 % V 55 1)) (by omega) (by omega); omega) ?_
          refine j_last (n := 6) hX hG (by decide) (by omega) dX12_laysEquation_165 ?_
          generalize hE166 : up _ 75 _ _ = E166
          have q166 : EQn (V 55 1) E166 (fun x => (0 : Int) + ind (V 58 e) x - ind (e / V 55 4) x - ind (V 58 (e % V 55 4)) x + ind (V 58 (e / V 55 1)) x - ind (V 58 (e / V 55 1 % V 55 1)) x) 5 := by rw [← hE166]; exact EQn_s q141 t3
          have r166 : fr [75] V E166 := by rw [← hE166]; exact fr_u r141 (by decide)
          clear hE166
          refine j_al0 hX dX12_laysEquation_166 rfl ?_
          refine j_getR (q := 75) hX hG fl_X12_73 rfl rfl (by decide) dX12_laysEquation_167 ?_
          refine j_al0 hX dX12_laysEquation_170 rfl ?_
          refine j_getR (q := 58) hX hG fl_X12_16 rfl rfl (by decide) dX12_laysEquation_171 ?_
          refine j_il2 hX dX12_laysEquation_174 ?_
          refine j_iald (n := 216) hX hG (by decide) (by omega) dX12_laysEquation_175 ?_
          refine j_eqS (st' := [vI (V 58 (e / V 55 4)), vA 75]) (by rw [r166 58 _ (by decide)]) ?_
          refine j_dup2 hX dX12_laysEquation_176 rfl rfl ?_
          refine j_lald (n := 6) hX hG (by decide) (by omega) dX12_laysEquation_177 ?_
          refine j_lconst (x := 1) hX dX12_laysEquation_178 rfl ⟨by decide, by decide⟩ ?_
          refine j_ladd hX dX12_laysEquation_179 (by have h9 := q166 (V 58 (e / V 55 4)) (by omega) (by omega); omega) ?_
          refine j_last (n := 6) hX hG (by decide) (by omega) dX12_laysEquation_180 ?_
          exact j_ret hR dX12_laysEquation_181 (by
      first
      | exact ⟨fun x a b => (q98 x a b).1.trans (eq_w2 hmo h_60 he m1), r98⟩
      | exact (by
          have q181 : EQn (V 55 1) (up E166 75 (V 58 (e / V 55 4)) (E166 75 (V 58 (e / V 55 4)) + 1)) (fun x => (0 : Int) + ind (V 58 e) x - ind (e / V 55 4) x - ind (V 58 (e % V 55 4)) x + ind (V 58 (e / V 55 1)) x - ind (V 58 (e / V 55 1 % V 55 1)) x + ind (V 58 (e / V 55 4)) x) 6 := EQn_a q166 t4
          exact ⟨fun x a b => (q181 x a b).1.trans (eq_w3 hmo h_60 he), fr_u r166 (by decide)⟩))
        · skip
          have t1 := htm (e % V 55 1) m1.1 (by omega)
          have t4 := htm (e / V 55 4) x4.1 (by omega)
          refine j_al0 hX dX12_laysEquation_63 rfl ?_
          refine j_getR (q := 75) hX hG fl_X12_73 rfl rfl (by decide) dX12_laysEquation_64 ?_
          refine j_al0 hX dX12_laysEquation_67 rfl ?_
          refine j_getR (q := 58) hX hG fl_X12_16 rfl rfl (by decide) dX12_laysEquation_68 ?_
          refine j_il1 hX dX12_laysEquation_71 ?_
          refine j_al0 hX dX12_laysEquation_72 rfl ?_
          refine j_getI hX hG fl_X12_136 (Or.inl rfl) (by decide) dX12_laysEquation_73 ?_
          refine j_fx (x := V 55 1) (by first | assumption | rfl) ?_
          refine j_irem hX dX12_laysEquation_76 (by omega) he.1 ?_
          refine j_iald (n := 216) hX hG (by decide) (by omega) dX12_laysEquation_77 ?_
          refine j_eqS (st' := [vI (V 58 (e % V 55 1)), vA 75]) (by rw [r55 58 _ (by decide)]) ?_
          refine j_dup2 hX dX12_laysEquation_78 rfl rfl ?_
          refine j_lald (n := 6) hX hG (by decide) (by omega) dX12_laysEquation_79 ?_
          refine j_lconst (x := 1) hX dX12_laysEquation_80 rfl ⟨by decide, by decide⟩ ?_
          refine j_lsub hX dX12_laysEquation_81 (by have h9 := q55 (V 58 (e % V 55 1)) (by omega) (by omega); omega) ?_
          refine j_last (n := 6) hX hG (by decide) (by omega) dX12_laysEquation_82 ?_
          generalize hE83 : up _ 75 _ _ = E83
          have q83 : EQn (V 55 1) E83 (fun x => (0 : Int) + ind (V 58 e) x - ind (e / V 55 4) x - ind (V 58 (e % V 55 1)) x) 3 := by rw [← hE83]; exact EQn_s q55 t1
          have r83 : fr [75] V E83 := by rw [← hE83]; exact fr_u r55 (by decide)
          clear hE83
          refine j_al0 hX dX12_laysEquation_83 rfl ?_
          refine j_getR (q := 75) hX hG fl_X12_73 rfl rfl (by decide) dX12_laysEquation_84 ?_
          refine j_al0 hX dX12_laysEquation_87 rfl ?_
          refine j_getR (q := 58) hX hG fl_X12_16 rfl rfl (by decide) dX12_laysEquation_88 ?_
          refine j_il2 hX dX12_laysEquation_91 ?_
          refine j_iald (n := 216) hX hG (by decide) (by omega) dX12_laysEquation_92 ?_
          refine j_eqS (st' := [vI (V 58 (e / V 55 4)), vA 75]) (by rw [r83 58 _ (by decide)]) ?_
          refine j_dup2 hX dX12_laysEquation_93 rfl rfl ?_
          refine j_lald (n := 6) hX hG (by decide) (by omega) dX12_laysEquation_94 ?_
          refine j_lconst (x := 1) hX dX12_laysEquation_95 rfl ⟨by decide, by decide⟩ ?_
          refine j_ladd hX dX12_laysEquation_96 (by have h9 := q83 (V 58 (e / V 55 4)) (by omega) (by omega); omega) ?_
          refine j_last (n := 6) hX hG (by decide) (by omega) dX12_laysEquation_97 ?_
          generalize hE98 : up _ 75 _ _ = E98
          have q98 : EQn (V 55 1) E98 (fun x => (0 : Int) + ind (V 58 e) x - ind (e / V 55 4) x - ind (V 58 (e % V 55 1)) x + ind (V 58 (e / V 55 4)) x) 4 := by rw [← hE98]; exact EQn_a q83 t4
          have r98 : fr [75] V E98 := by rw [← hE98]; exact fr_u r83 (by decide)
          clear hE98
          refine j_goto (tgt := 181) hX dX12_laysEquation_98 (by decide) ?_
          exact j_ret hR dX12_laysEquation_181 (by
      first
      | exact ⟨fun x a b => (q98 x a b).1.trans (eq_w2 hmo h_60 he m1), r98⟩
      | exact (by
          have q181 : EQn (V 55 1) (up E166 75 (V 58 (e / V 55 4)) (E166 75 (V 58 (e / V 55 4)) + 1)) (fun x => (0 : Int) + ind (V 58 e) x - ind (e / V 55 4) x - ind (V 58 (e % V 55 4)) x + ind (V 58 (e / V 55 1)) x - ind (V 58 (e / V 55 1 % V 55 1)) x + ind (V 58 (e / V 55 4)) x) 6 := EQn_a q166 t4
          exact ⟨fun x a b => (q181 x a b).1.trans (eq_w3 hmo h_60 he), fr_u r166 (by decide)⟩))
      · skip
        refine j_al0 hX dX12_laysEquation_10 rfl ?_
        refine j_getR (q := 75) hX hG fl_X12_73 rfl rfl (by decide) dX12_laysEquation_11 ?_
        refine j_il2 hX dX12_laysEquation_14 ?_
        refine j_lconst (x := 0) hX dX12_laysEquation_15 rfl ⟨by decide, by decide⟩ ?_
        refine j_last (n := 6) hX hG (by decide) (by omega) dX12_laysEquation_16 ?_
        refine j_inc2 hX dX12_laysEquation_17 rfl (by omega) ?_
        refine j_goto (tgt := 2) hX dX12_laysEquation_20 (by decide) ?_
        exact ih_2 _ _ (by omega) (fr_u hs (by decide)) (lt_stepI (fun x a b => by rw [up_n _ (by omega)]; exact hD x a b) (up_s ..)) (by omega)
  exact lp_2 _ _ _ (by omega) fr_0 (fun x a b => by omega) (Nat.lt_succ_self _)
