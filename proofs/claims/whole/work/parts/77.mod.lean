theorem j_fx {X : Cx} {G : GS} {pc : Nat} {ls st : List MV} {V : VV} {x y : Int} (e : y = x) (kk : J X G pc ls (vI x :: st) V) : J X G pc ls (vI y :: st) V := e ▸ kk
theorem iw_end {T : Int → Int} {g n u m k A : Int} (hk : k = -1) (h : A = imgF T g n u (k + 1).toNat + g ^ (k + 1).toNat * m) : m = A := by
  rw [h, hk]
  show m = 0 + g ^ 0 * m
  rw [Int.pow_zero]; omega
theorem iw_s {T : Int → Int} {g n u m k A : Int} (h : A = imgF T g n u (k + 1).toNat + g ^ (k + 1).toNat * m) (hk : 0 ≤ k) : A = imgF T g n u (k + -1 + 1).toNat + g ^ (k + -1 + 1).toNat * (g * m + T (u / g ^ k.toNat % n)) := by
  rw [h, imgF_S hk, show k + -1 + 1 = k by omega, show (k + 1).toNat = k.toNat + 1 by omega, Int.pow_succ, Int.mul_add, Int.mul_assoc]
  omega
theorem iw_m {g m z : Int} (hg : 2 ≤ g ∧ g ≤ 6) (hm : 0 ≤ m ∧ m < g ^ z.toNat) (hz : z ≤ 4) : 0 ≤ g * m ∧ g * m ≤ 7776 - g := by
  have h1 : 0 ≤ g * m := Int.mul_nonneg (by omega) hm.1
  have h2 : g * m ≤ g * (g ^ z.toNat - 1) := Int.mul_le_mul_of_nonneg_left (by omega) (by omega)
  have h3 := pw5 hg (k := z.toNat + 1) (by omega)
  rw [Int.pow_succ, Int.mul_comm] at h3
  rw [Int.mul_sub, Int.mul_one] at h2
  omega
theorem iw_b {g m v k t : Int} (hg : 2 ≤ g ∧ g ≤ 6) (hm : 0 ≤ m ∧ m < g ^ (v - 1 - k).toNat) (hk : 0 ≤ k ∧ k ≤ v - 1) (ht : 0 ≤ t ∧ t < g) : 0 ≤ g * m + t ∧ g * m + t < g ^ (v - 1 - (k + -1)).toNat := by
  have h1 : 0 ≤ g * m := Int.mul_nonneg (by omega) hm.1
  have h2 : g * m ≤ g * (g ^ (v - 1 - k).toNat - 1) := Int.mul_le_mul_of_nonneg_left (by omega) (by omega)
  rw [show (v - 1 - (k + -1)).toNat = (v - 1 - k).toNat + 1 by omega, Int.pow_succ, Int.mul_comm (g ^ _) g]
  rw [Int.mul_sub, Int.mul_one] at h2
  omega
section TELL
variable {V Z : VV} {v s u : Int}
theorem tl_A (hA : ∀ x, 0 ≤ x → x < u → Z 74 (imgF (V 58) (V 55 1) (V 55 3) x v.toNat) = dg (V 55 1) x (v + V 55 2 - 2 - s).toNat) (hB : ∀ c, 0 ≤ c → c < V 55 1 ^ v.toNat → Z 74 c = -1 ∨ ∃ x, 0 ≤ x ∧ x < u ∧ imgF (V 58) (V 55 1) (V 55 3) x v.toNat = c) (hi : 0 ≤ imgF (V 58) (V 55 1) (V 55 3) u v.toNat ∧ imgF (V 58) (V 55 1) (V 55 3) u v.toNat < V 55 1 ^ v.toNat)
    (h : Z 74 (imgF (V 58) (V 55 1) (V 55 3) u v.toNat) = -1 ∨ Z 74 (imgF (V 58) (V 55 1) (V 55 3) u v.toNat) = dg (V 55 1) u (v + V 55 2 - 2 - s).toNat) (hg : 1 ≤ V 55 1 := by omega) : ∀ x, 0 ≤ x → x < u + 1 → (up Z 74 (imgF (V 58) (V 55 1) (V 55 3) u v.toNat) (dg (V 55 1) u (v + V 55 2 - 2 - s).toNat)) 74 (imgF (V 58) (V 55 1) (V 55 3) x v.toNat) = dg (V 55 1) x (v + V 55 2 - 2 - s).toNat :=
  lt_stepI (fun x x0 x1 => by
    by_cases e : imgF (V 58) (V 55 1) (V 55 3) x v.toNat = imgF (V 58) (V 55 1) (V 55 3) u v.toNat
    · rw [e, up_s]
      have a := hA x x0 x1
      rw [e] at a
      rcases h with q | q
      · have : 0 ≤ dg (V 55 1) x (v + V 55 2 - 2 - s).toNat := (md_b _ (by omega)).1
        omega
      · omega
    · rw [up_n _ (fun q => e q.2)]; exact hA x x0 x1) (up_s ..)
theorem tl_B {d : Int} (hB : ∀ c, 0 ≤ c → c < V 55 1 ^ v.toNat → Z 74 c = -1 ∨ ∃ x, 0 ≤ x ∧ x < u ∧ imgF (V 58) (V 55 1) (V 55 3) x v.toNat = c) (hu : 0 ≤ u) : ∀ c, 0 ≤ c → c < V 55 1 ^ v.toNat → (up Z 74 (imgF (V 58) (V 55 1) (V 55 3) u v.toNat) d) 74 c = -1 ∨ ∃ x, 0 ≤ x ∧ x < u + 1 ∧ imgF (V 58) (V 55 1) (V 55 3) x v.toNat = c := fun c c0 c1 => by
  by_cases e : c = imgF (V 58) (V 55 1) (V 55 3) u v.toNat
  · exact Or.inr ⟨u, hu, by omega, e.symm⟩
  · rw [up_n _ (fun q => e q.2)]
    exact (hB c c0 c1).imp id (fun ⟨x, a, b, f⟩ => ⟨x, a, by omega, f⟩)
theorem tl_no (hA : ∀ x, 0 ≤ x → x < u → Z 74 (imgF (V 58) (V 55 1) (V 55 3) x v.toNat) = dg (V 55 1) x (v + V 55 2 - 2 - s).toNat) (hB : ∀ c, 0 ≤ c → c < V 55 1 ^ v.toNat → Z 74 c = -1 ∨ ∃ x, 0 ≤ x ∧ x < u ∧ imgF (V 58) (V 55 1) (V 55 3) x v.toNat = c) (hi : 0 ≤ imgF (V 58) (V 55 1) (V 55 3) u v.toNat ∧ imgF (V 58) (V 55 1) (V 55 3) u v.toNat < V 55 1 ^ v.toNat) (hu : 0 ≤ u) (hl : u < V 55 1 ^ (v + V 55 2 - 1).toNat)
    (h1 : ¬ Z 74 (imgF (V 58) (V 55 1) (V 55 3) u v.toNat) = -1) (h2 : ¬ Z 74 (imgF (V 58) (V 55 1) (V 55 3) u v.toNat) = dg (V 55 1) u (v + V 55 2 - 2 - s).toNat) (hv : 0 ≤ v + V 55 2 - 1 := by omega) : ¬ TEL (V 58) (V 55 1) (V 55 3) v.toNat (v + V 55 2 - 1).toNat s := fun q => by
  rcases hB _ hi.1 hi.2 with z | ⟨x, x0, x1, x2⟩
  · exact h1 z
  · have a := hA x x0 x1
    rw [x2] at a
    have b := q x u x0 (by omega) hu hl x2
    rw [show ((v + V 55 2 - 1).toNat : Int) - 1 - s = v + V 55 2 - 2 - s by omega] at b
    omega
theorem tl_yes (hA : ∀ x, 0 ≤ x → x < V 55 1 ^ (v + V 55 2 - 1).toNat → Z 74 (imgF (V 58) (V 55 1) (V 55 3) x v.toNat) = dg (V 55 1) x (v + V 55 2 - 2 - s).toNat) (hv : 0 ≤ v + V 55 2 - 1) : TEL (V 58) (V 55 1) (V 55 3) v.toNat (v + V 55 2 - 1).toNat s := fun x y x0 x1 y0 y1 e => by
  rw [show ((v + V 55 2 - 1).toNat : Int) - 1 - s = v + V 55 2 - 2 - s by omega, ← hA x x0 x1, ← hA y y0 y1, e]
end TELL
set_option maxHeartbeats 4000000 in
theorem ok_X12_laysGiven {V : VV} {v : Int} (hmo : MO V) (htm : TRM V) (hv5 : 1 ≤ v ∧ v ≤ 5) (hpw : V 55 1 ^ (v + V 55 2 - 1).toNat ≤ 50000) : Ok NA yX12_laysGiven cX12_laysGiven 6 none 1 23 [vA 55, vI v] V (pV (fun V' => (∀ u, 0 ≤ u → u < V 55 1 ^ (v + V 55 2 - 1).toNat → V' 73 u = imgF (V 58) (V 55 1) (V 55 3) u v.toNat) ∧ fr [73] V V')) := by
  refine Ok.intro (by decide +kernel) (Nat.le_of_ble_eq_true rfl) (fun X G hX hG hR hoa hoV => ?_)
  show J X G 0 [vA 55, vI v, vU, vU, vU, vU] [] V
  have hb9 := hmo.b
  refine j_al0 hX dX12_laysGiven_0 rfl ?_
  refine j_getI hX hG fl_X12_136 (Or.inl rfl) (by decide) dX12_laysGiven_1 ?_
  refine j_fx (x := V 55 1) (by first | assumption | rfl) ?_
  refine j_il1 hX dX12_laysGiven_4 ?_
  refine j_al0 hX dX12_laysGiven_5 rfl ?_
  refine j_getI hX hG fl_X12_139 (Or.inl rfl) (by decide) dX12_laysGiven_6 ?_
  refine j_fx (x := V 55 2) (by first | assumption | rfl) ?_
  refine j_iadd hX dX12_laysGiven_9 (by omega) ?_
  refine j_iconst hX dX12_laysGiven_10 ⟨by decide, by decide⟩ ?_
  refine j_isub hX dX12_laysGiven_11 (by omega) ?_
  refine j_pSI2 hX hG lk_X12_349 (ok_X12_power (by omega) (by omega)) (Nat.le_of_ble_eq_true rfl) (Nat.le_of_ble_eq_true rfl) (Nat.le_of_ble_eq_true rfl) rfl dX12_laysGiven_12 ?_
  refine j_is2 hX dX12_laysGiven_15 rfl ?_
  refine j_iconst hX dX12_laysGiven_16 ⟨by decide, by decide⟩ ?_
  refine j_is3 hX dX12_laysGiven_17 rfl ?_
  have lp_18 : ∀ (f9 : Nat) (u : Int) (Y : VV), (0 ≤ u ∧ (u ≤ V 55 1 ^ (v + V 55 2 - 1).toNat)) → (fr [73] V Y) → (∀ j, 0 ≤ j → j < u → Y 73 j = imgF (V 58) (V 55 1) (V 55 3) j v.toNat) → ((V 55 1 ^ (v + V 55 2 - 1).toNat - u).toNat) < f9 → J X G 18 [vA 55, vI v, vI (V 55 1 ^ (v + V 55 2 - 1).toNat), vI u, vU, vU] [] Y := by
    intro f9
    induction f9 with
    | zero => intro u Y _ _ _ hm; exact absurd hm (Nat.not_lt_zero _)
    | succ f9 ih_18 =>
      intro u Y hu hs hGv hm
      refine j_il3 hX dX12_laysGiven_18 ?_
      refine j_il2 hX dX12_laysGiven_19 ?_
      refine j_icmp_ge (tgt := 87) hX dX12_laysGiven_20 (by decide) (fun h_20 => ?_) (fun h_20 => ?_)
      · skip
        exact j_ret hR dX12_laysGiven_87 ⟨fun u u0 u1 => hGv u u0 (by omega), hs⟩
      · skip
        have f1_Y : Y 55 1 = V 55 1 := hs 55 1 (by decide)
        have f2_Y : Y 55 2 = V 55 2 := hs 55 2 (by decide)
        have f3_Y : Y 55 3 = V 55 3 := hs 55 3 (by decide)
        have f58_Y : Y 58 = V 58 := funext fun b => hs 58 b (by decide)
        have hul : u < V 55 1 ^ (v + V 55 2 - 1).toNat := by omega
        have g7 := pw5 hb9.1 (k := v.toNat) (by omega)
        refine j_iconst hX dX12_laysGiven_23 ⟨by decide, by decide⟩ ?_
        refine j_is4 hX dX12_laysGiven_24 rfl ?_
        refine j_il1 hX dX12_laysGiven_26 ?_
        refine j_iconst hX dX12_laysGiven_27 ⟨by decide, by decide⟩ ?_
        refine j_isub hX dX12_laysGiven_28 (by omega) ?_
        refine j_is5 hX dX12_laysGiven_29 rfl ?_
        have lp_31 : ∀ (f9 : Nat) (m k : Int), (-1 ≤ k ∧ k ≤ v - 1) → (0 ≤ m ∧ m < V 55 1 ^ (v - 1 - k).toNat) → (imgF (V 58) (V 55 1) (V 55 3) u v.toNat = imgF (V 58) (V 55 1) (V 55 3) u (k + 1).toNat + V 55 1 ^ (k + 1).toNat * m) → ((k + 1).toNat) < f9 → J X G 31 [vA 55, vI v, vI (V 55 1 ^ (v + V 55 2 - 1).toNat), vI u, vI m, vI k] [] Y := by
          intro f9
          induction f9 with
          | zero => intro m k _ _ _ hm; exact absurd hm (Nat.not_lt_zero _)
          | succ f9 ih_31 =>
            intro m k hk hmw hI hm
            refine j_il5 hX dX12_laysGiven_31 ?_
            refine j_if_lt (tgt := 73) hX dX12_laysGiven_33 (by decide) (fun h_33 => ?_) (fun h_33 => ?_)
            · skip
              refine j_al0 hX dX12_laysGiven_73 rfl ?_
              refine j_getR (q := 73) hX hG fl_X12_67 rfl rfl (by decide) dX12_laysGiven_74 ?_
              refine j_il3 hX dX12_laysGiven_77 ?_
              refine j_il4 hX dX12_laysGiven_78 ?_
              refine j_iast (n := 50000) hX hG (by decide) (by omega) dX12_laysGiven_80 ?_
              refine j_inc3 hX dX12_laysGiven_81 rfl (by omega) ?_
              refine j_goto (tgt := 18) hX dX12_laysGiven_84 (by decide) ?_
              refine j_fg4 ?_
              refine j_fg5 ?_
              exact ih_18 _ _ (by omega) (fr_u hs (by decide)) (lt_stepI (fun j j0 j1 => by rw [up_n _ (by omega)]; exact hGv j j0 j1) (by rw [up_s]; exact iw_end (by omega) hI)) (by omega)
            · skip
              have hp1 : 0 < V 55 1 ^ k.toNat := Int.pow_pos (by omega)
              have hM := md_b (u / V 55 1 ^ k.toNat) (n := V 55 3) (by omega)
              have hR := htm _ hM.1 hM.2
              have hq0 : 0 ≤ u / V 55 1 ^ k.toNat := Int.ediv_nonneg hu.1 (by omega)
              have hmb := iw_m hb9.1 hmw (show v - 1 - k ≤ 4 by omega)
              refine j_al0 hX dX12_laysGiven_36 rfl ?_
              refine j_getI hX hG fl_X12_136 (Or.inl rfl) (by decide) dX12_laysGiven_37 ?_
              refine j_fx (x := V 55 1) (by first | assumption | rfl) ?_
              refine j_il4 hX dX12_laysGiven_40 ?_
              refine j_imul hX dX12_laysGiven_42 (by omega) ?_
              refine j_al0 hX dX12_laysGiven_43 rfl ?_
              refine j_getR (q := 58) hX hG fl_X12_16 rfl rfl (by decide) dX12_laysGiven_44 ?_
              refine j_il3 hX dX12_laysGiven_47 ?_
              refine j_al0 hX dX12_laysGiven_48 rfl ?_
              refine j_getI hX hG fl_X12_136 (Or.inl rfl) (by decide) dX12_laysGiven_49 ?_
              refine j_fx (x := V 55 1) (by first | assumption | rfl) ?_
              refine j_il5 hX dX12_laysGiven_52 ?_
              refine j_pSI2 hX hG lk_X12_349 (ok_X12_power (by omega) (by omega)) (Nat.le_of_ble_eq_true rfl) (Nat.le_of_ble_eq_true rfl) (Nat.le_of_ble_eq_true rfl) rfl dX12_laysGiven_54 ?_
              refine j_idiv hX dX12_laysGiven_57 hp1 hu.1 ?_
              refine j_al0 hX dX12_laysGiven_58 rfl ?_
              refine j_getI hX hG fl_X12_148 (Or.inl rfl) (by decide) dX12_laysGiven_59 ?_
              refine j_fx (x := V 55 3) (by first | assumption | rfl) ?_
              refine j_irem hX dX12_laysGiven_62 (by omega) hq0 ?_
              refine j_iald (n := 216) hX hG (by decide) (by omega) dX12_laysGiven_63 ?_
              refine j_eqS (st' := [vI (V 58 (u / V 55 1 ^ k.toNat % V 55 3)), vI (V 55 1 * m)]) (by rw [f58_Y]) ?_
              refine j_iadd hX dX12_laysGiven_64 (by omega) ?_
              refine j_is4 hX dX12_laysGiven_65 rfl ?_
              refine j_inc5 hX dX12_laysGiven_67 rfl (by omega) ?_
              refine j_goto (tgt := 31) hX dX12_laysGiven_70 (by decide) ?_
              exact ih_31 _ _ (by omega) (iw_b hb9.1 hmw (by omega) hR) (iw_s hI (by omega)) (by omega)
        exact lp_31 _ 0 _ (by omega) ⟨by decide, Int.pow_pos (by omega)⟩ (by rw [show v - 1 + 1 = v by omega]; omega) (Nat.lt_succ_self _)
  exact lp_18 _ _ _ ⟨by decide, Int.le_of_lt (Int.pow_pos (by omega))⟩ fr_0 (fun j j0 j1 => by omega) (Nat.lt_succ_self _)
set_option maxHeartbeats 4000000 in
theorem ok_X12_tells {V : VV} {v s : Int} (hmo : MO V) (htm : TRM V) (hv5 : 1 ≤ v ∧ v ≤ 5) (hpw : V 55 1 ^ (v + V 55 2 - 1).toNat ≤ 50000) (hgv : ∀ u, 0 ≤ u → u < V 55 1 ^ (v + V 55 2 - 1).toNat → V 73 u = imgF (V 58) (V 55 1) (V 55 3) u v.toNat) (hs0 : 0 ≤ s ∧ s ≤ v + V 55 2 - 2) : Ok NA yX12_tells cX12_tells 6 (some .boolean) 1 23 [vA 55, vI v, vI s] V (pI (fun x9 V' => ((x9 = 1 ∧ TEL (V 58) (V 55 1) (V 55 3) v.toNat (v + V 55 2 - 1).toNat s ∧ (∀ x, 0 ≤ x → x < V 55 1 ^ (v + V 55 2 - 1).toNat → V' 74 (imgF (V 58) (V 55 1) (V 55 3) x v.toNat) = dg (V 55 1) x (v + V 55 2 - 2 - s).toNat) ∧ (∀ c, 0 ≤ c → c < V 55 1 ^ v.toNat → V' 74 c = -1 ∨ ∃ x, 0 ≤ x ∧ x < V 55 1 ^ (v + V 55 2 - 1).toNat ∧ imgF (V 58) (V 55 1) (V 55 3) x v.toNat = c)) ∨ (x9 = 0 ∧ ¬ TEL (V 58) (V 55 1) (V 55 3) v.toNat (v + V 55 2 - 1).toNat s)) ∧ fr [74] V V')) := by
  refine Ok.intro (by decide +kernel) (Nat.le_of_ble_eq_true rfl) (fun X G hX hG hR hoa hoV => ?_)
  show J X G 0 [vA 55, vI v, vI s, vU, vU, vU] [] V
  have hb9 := hmo.b
  have g7 := pw5 hb9.1 (k := v.toNat) (by omega)
  refine j_iconst hX dX12_tells_0 ⟨by decide, by decide⟩ ?_
  refine j_is3 hX dX12_tells_1 rfl ?_
  have lp_2 : ∀ (f9 : Nat) (k : Int) (Y : VV), (0 ≤ k ∧ k ≤ V 55 1 ^ v.toNat) → (fr [74] V Y) → (∀ j, 0 ≤ j → j < k → Y 74 j = -1) → ((V 55 1 ^ v.toNat - k).toNat) < f9 → J X G 2 [vA 55, vI v, vI s, vI k, vU, vU] [] Y := by
    intro f9
    induction f9 with
    | zero => intro k Y _ _ _ hm; exact absurd hm (Nat.not_lt_zero _)
    | succ f9 ih_2 =>
      intro k Y hk hsy hA9 hm
      have f1_Y : Y 55 1 = V 55 1 := hsy 55 1 (by decide)
      have f2_Y : Y 55 2 = V 55 2 := hsy 55 2 (by decide)
      have f3_Y : Y 55 3 = V 55 3 := hsy 55 3 (by decide)
      have f58_Y : Y 58 = V 58 := funext fun b => hsy 58 b (by decide)
      refine j_il3 hX dX12_tells_2 ?_
      refine j_al0 hX dX12_tells_3 rfl ?_
      refine j_getI hX hG fl_X12_136 (Or.inl rfl) (by decide) dX12_tells_4 ?_
      refine j_fx (x := V 55 1) (by first | assumption | rfl) ?_
      refine j_il1 hX dX12_tells_7 ?_
      refine j_pSI2 hX hG lk_X12_349 (ok_X12_power (by omega) (by omega)) (Nat.le_of_ble_eq_true rfl) (Nat.le_of_ble_eq_true rfl) (Nat.le_of_ble_eq_true rfl) rfl dX12_tells_8 ?_
      refine j_icmp_ge (tgt := 27) hX dX12_tells_11 (by decide) (fun h_11 => ?_) (fun h_11 => ?_)
      · skip
        refine j_al0 hX dX12_tells_27 rfl ?_
        refine j_getI hX hG fl_X12_136 (Or.inl rfl) (by decide) dX12_tells_28 ?_
        refine j_fx (x := V 55 1) (by first | assumption | rfl) ?_
        refine j_il1 hX dX12_tells_31 ?_
        refine j_al0 hX dX12_tells_32 rfl ?_
        refine j_getI hX hG fl_X12_139 (Or.inl rfl) (by decide) dX12_tells_33 ?_
        refine j_fx (x := V 55 2) (by first | assumption | rfl) ?_
        refine j_iadd hX dX12_tells_36 (by omega) ?_
        refine j_iconst hX dX12_tells_37 ⟨by decide, by decide⟩ ?_
        refine j_isub hX dX12_tells_38 (by omega) ?_
        refine j_il2 hX dX12_tells_39 ?_
        refine j_isub hX dX12_tells_40 (by omega) ?_
        refine j_pSI2 hX hG lk_X12_349 (ok_X12_power (by omega) (by omega)) (Nat.le_of_ble_eq_true rfl) (Nat.le_of_ble_eq_true rfl) (Nat.le_of_ble_eq_true rfl) rfl dX12_tells_41 ?_
        refine j_is3 hX dX12_tells_44 rfl ?_
        have hp1 : 0 < V 55 1 ^ (v + V 55 2 - 2 - s).toNat := Int.pow_pos (by omega)
        refine j_iconst hX dX12_tells_45 ⟨by decide, by decide⟩ ?_
        refine j_is4 hX dX12_tells_46 rfl ?_
        have lp_48 : ∀ (f9 : Nat) (u : Int) (Z : VV), (0 ≤ u ∧ u ≤ V 55 1 ^ (v + V 55 2 - 1).toNat) → (fr [74] V Z) → (∀ x, 0 ≤ x → x < u → Z 74 (imgF (V 58) (V 55 1) (V 55 3) x v.toNat) = dg (V 55 1) x (v + V 55 2 - 2 - s).toNat) → (∀ c, 0 ≤ c → c < V 55 1 ^ v.toNat → Z 74 c = -1 ∨ ∃ x, 0 ≤ x ∧ x < u ∧ imgF (V 58) (V 55 1) (V 55 3) x v.toNat = c) → ((V 55 1 ^ (v + V 55 2 - 1).toNat - u).toNat) < f9 → J X G 48 [vA 55, vI v, vI s, vI (V 55 1 ^ (v + V 55 2 - 2 - s).toNat), vI u, vU] [] Z := by
          intro f9
          induction f9 with
          | zero => intro u Z _ _ _ _ hm; exact absurd hm (Nat.not_lt_zero _)
          | succ f9 ih_48 =>
            intro u Z hu hs hA hB hm
            refine j_il4 hX dX12_tells_48 ?_
            have f1_Z : Z 55 1 = V 55 1 := hs 55 1 (by decide)
            have f2_Z : Z 55 2 = V 55 2 := hs 55 2 (by decide)
            have f3_Z : Z 55 3 = V 55 3 := hs 55 3 (by decide)
            have f58_Z : Z 58 = V 58 := funext fun b => hs 58 b (by decide)
            refine j_al0 hX dX12_tells_50 rfl ?_
            refine j_getI hX hG fl_X12_136 (Or.inl rfl) (by decide) dX12_tells_51 ?_
            refine j_fx (x := V 55 1) (by first | assumption | rfl) ?_
            refine j_il1 hX dX12_tells_54 ?_
            refine j_al0 hX dX12_tells_55 rfl ?_
            refine j_getI hX hG fl_X12_139 (Or.inl rfl) (by decide) dX12_tells_56 ?_
            refine j_fx (x := V 55 2) (by first | assumption | rfl) ?_
            refine j_iadd hX dX12_tells_59 (by omega) ?_
            refine j_iconst hX dX12_tells_60 ⟨by decide, by decide⟩ ?_
            refine j_isub hX dX12_tells_61 (by omega) ?_
            refine j_pSI2 hX hG lk_X12_349 (ok_X12_power (by omega) (by omega)) (Nat.le_of_ble_eq_true rfl) (Nat.le_of_ble_eq_true rfl) (Nat.le_of_ble_eq_true rfl) rfl dX12_tells_62 ?_
            refine j_icmp_ge (tgt := 134) hX dX12_tells_65 (by decide) (fun h_65 => ?_) (fun h_65 => ?_)
            · skip
              refine j_iconst hX dX12_tells_134 ⟨by decide, by decide⟩ ?_
              exact j_retZ hR dX12_tells_135 (by omega) ⟨Or.inl ⟨rfl, tl_yes (fun x x0 x1 => hA x x0 (by omega)) (by omega), fun x x0 x1 => hA x x0 (by omega), fun c c0 c1 => (hB c c0 c1).imp id (fun ⟨x, a, b, d⟩ => ⟨x, a, by omega, d⟩)⟩, hs⟩
            · skip
              have hul : u < V 55 1 ^ (v + V 55 2 - 1).toNat := by omega
              have hq0 : 0 ≤ u / V 55 1 ^ (v + V 55 2 - 2 - s).toNat := Int.ediv_nonneg hu.1 (by omega)
              have hib := imgF_b (u := u) (show 1 ≤ V 55 1 by omega) (show 1 ≤ V 55 3 by omega) htm v.toNat
              have h73 : Z 73 u = imgF (V 58) (V 55 1) (V 55 3) u v.toNat := (hs 73 u (by decide)).trans (hgv u hu.1 hul)
              have hdg : 0 ≤ dg (V 55 1) u (v + V 55 2 - 2 - s).toNat := (md_b _ (by omega)).1
              refine j_il4 hX dX12_tells_68 ?_
              refine j_il3 hX dX12_tells_70 ?_
              refine j_idiv hX dX12_tells_71 hp1 hu.1 ?_
              refine j_al0 hX dX12_tells_72 rfl ?_
              refine j_getI hX hG fl_X12_136 (Or.inl rfl) (by decide) dX12_tells_73 ?_
              refine j_fx (x := V 55 1) (by first | assumption | rfl) ?_
              refine j_irem hX dX12_tells_76 (by omega) hq0 ?_
              refine j_eqS (st' := [vI (dg (V 55 1) u (v + V 55 2 - 2 - s).toNat)]) rfl ?_
              refine j_is5 hX dX12_tells_77 rfl ?_
              refine j_al0 hX dX12_tells_79 rfl ?_
              refine j_getR (q := 74) hX hG fl_X12_70 rfl rfl (by decide) dX12_tells_80 ?_
              refine j_al0 hX dX12_tells_83 rfl ?_
              refine j_getR (q := 73) hX hG fl_X12_67 rfl rfl (by decide) dX12_tells_84 ?_
              refine j_il4 hX dX12_tells_87 ?_
              refine j_iald (n := 50000) hX hG (by decide) (by omega) dX12_tells_89 ?_
              refine j_eqS (st' := [vI (imgF (V 58) (V 55 1) (V 55 3) u v.toNat), vA 74]) (by rw [h73]) ?_
              refine j_iald (n := 7776) hX hG (by decide) (by omega) dX12_tells_90 ?_
              refine j_iconst hX dX12_tells_91 ⟨by decide, by decide⟩ ?_
              refine j_icmp_eq (tgt := 114) hX dX12_tells_92 (by decide) (fun h_92 => ?_) (fun h_92 => ?_)
              · skip
                refine j_al0 hX dX12_tells_114 rfl ?_
                refine j_getR (q := 74) hX hG fl_X12_70 rfl rfl (by decide) dX12_tells_115 ?_
                refine j_al0 hX dX12_tells_118 rfl ?_
                refine j_getR (q := 73) hX hG fl_X12_67 rfl rfl (by decide) dX12_tells_119 ?_
                refine j_il4 hX dX12_tells_122 ?_
                refine j_iald (n := 50000) hX hG (by decide) (by omega) dX12_tells_124 ?_
                refine j_eqS (st' := [vI (imgF (V 58) (V 55 1) (V 55 3) u v.toNat), vA 74]) (by rw [h73]) ?_
                refine j_il5 hX dX12_tells_125 ?_
                refine j_iast (n := 7776) hX hG (by decide) (by omega) dX12_tells_127 ?_
                refine j_inc4 hX dX12_tells_128 rfl (by omega) ?_
                refine j_goto (tgt := 48) hX dX12_tells_131 (by decide) ?_
                refine j_fg5 ?_
                exact ih_48 _ _ (by omega) (fr_u hs (by decide)) (tl_A hA hB hib (by first | exact Or.inl h_92 | exact Or.inr h_109)) (tl_B hB hu.1) (by omega)
              · skip
                refine j_al0 hX dX12_tells_95 rfl ?_
                refine j_getR (q := 74) hX hG fl_X12_70 rfl rfl (by decide) dX12_tells_96 ?_
                refine j_al0 hX dX12_tells_99 rfl ?_
                refine j_getR (q := 73) hX hG fl_X12_67 rfl rfl (by decide) dX12_tells_100 ?_
                refine j_il4 hX dX12_tells_103 ?_
                refine j_iald (n := 50000) hX hG (by decide) (by omega) dX12_tells_105 ?_
                refine j_eqS (st' := [vI (imgF (V 58) (V 55 1) (V 55 3) u v.toNat), vA 74]) (by rw [h73]) ?_
                refine j_iald (n := 7776) hX hG (by decide) (by omega) dX12_tells_106 ?_
                refine j_il5 hX dX12_tells_107 ?_
                refine j_icmp_eq (tgt := 114) hX dX12_tells_109 (by decide) (fun h_109 => ?_) (fun h_109 => ?_)
                · skip
                  refine j_al0 hX dX12_tells_114 rfl ?_
                  refine j_getR (q := 74) hX hG fl_X12_70 rfl rfl (by decide) dX12_tells_115 ?_
                  refine j_al0 hX dX12_tells_118 rfl ?_
                  refine j_getR (q := 73) hX hG fl_X12_67 rfl rfl (by decide) dX12_tells_119 ?_
                  refine j_il4 hX dX12_tells_122 ?_
                  refine j_iald (n := 50000) hX hG (by decide) (by omega) dX12_tells_124 ?_
                  refine j_eqS (st' := [vI (imgF (V 58) (V 55 1) (V 55 3) u v.toNat), vA 74]) (by rw [h73]) ?_
                  refine j_il5 hX dX12_tells_125 ?_
                  refine j_iast (n := 7776) hX hG (by decide) (by omega) dX12_tells_127 ?_
                  refine j_inc4 hX dX12_tells_128 rfl (by omega) ?_
                  refine j_goto (tgt := 48) hX dX12_tells_131 (by decide) ?_
                  refine j_fg5 ?_
                  exact ih_48 _ _ (by omega) (fr_u hs (by decide)) (tl_A hA hB hib (by first | exact Or.inl h_92 | exact Or.inr h_109)) (tl_B hB hu.1) (by omega)
                · skip
                  refine j_iconst hX dX12_tells_112 ⟨by decide, by decide⟩ ?_
                  exact j_retZ hR dX12_tells_113 (by omega) ⟨Or.inr ⟨rfl, tl_no hA hB hib hu.1 hul h_92 h_109⟩, hs⟩
        exact lp_48 _ _ _ ⟨by decide, Int.le_of_lt (Int.pow_pos (by omega))⟩ hsy (fun j j0 j1 => by omega) (fun c c0 c1 => Or.inl (hA9 c c0 (by omega))) (Nat.lt_succ_self _)
      · skip
        refine j_al0 hX dX12_tells_14 rfl ?_
        refine j_getR (q := 74) hX hG fl_X12_70 rfl rfl (by decide) dX12_tells_15 ?_
        refine j_il3 hX dX12_tells_18 ?_
        refine j_iconst hX dX12_tells_19 ⟨by decide, by decide⟩ ?_
        refine j_iast (n := 7776) hX hG (by decide) (by omega) dX12_tells_20 ?_
        refine j_inc3 hX dX12_tells_21 rfl (by omega) ?_
        refine j_goto (tgt := 2) hX dX12_tells_24 (by decide) ?_
        exact ih_2 _ _ (by omega) (fr_u hsy (by decide)) (lt_stepI (fun j j0 j1 => by rw [up_n _ (by omega)]; exact hA9 j j0 j1) (up_s ..)) (by omega)
  exact lp_2 _ _ _ ⟨by decide, by omega⟩ fr_0 (fun j j0 j1 => by omega) (Nat.lt_succ_self _)
