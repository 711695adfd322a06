def itM (V : VV) (R : Int → Int) : Nat → Int → Int
  | 0 => R
  | t + 1 => fun k => rowM V (itM V R t) k
theorem rowM_c {V W : VV} (h1 : W 55 1 = V 55 1) (h2 : W 55 2 = V 55 2) (h5 : W 55 5 = V 55 5) (h39 : W 55 39 = V 55 39) (h40 : W 55 40 = V 55 40) (h74 : W 74 = V 74) : rowM W = rowM V := by
  funext R k; unfold rowM; rw [h1, h2, h5, h39, h40, h74]
theorem itM_c {V W : VV} {R : Int → Int} (h1 : W 55 1 = V 55 1) (h2 : W 55 2 = V 55 2) (h5 : W 55 5 = V 55 5) (h39 : W 55 39 = V 55 39) (h40 : W 55 40 = V 55 40) (h74 : W 74 = V 74) : ∀ t : Nat, itM W R t = itM V R t
  | 0 => rfl
  | t + 1 => by funext k; show rowM W (itM W R t) k = rowM V (itM V R t) k; rw [rowM_c h1 h2 h5 h39 h40 h74, itM_c h1 h2 h5 h39 h40 h74 t]
theorem rowM_R {W : VV} {n : Int} {R S : Int → Int} (h5 : W 55 5 = n) (hn : 1 ≤ n ∧ n ≤ 16) (h : ∀ k, 0 ≤ k → k < n → R k = S k) (k : Int) : rowM W R k = rowM W S k := by
  unfold rowM
  congr 1
  exact codeF_c _ fun i _ _ => by rw [h5]; exact h _ (md_b _ hn.1).1 (md_b _ hn.1).2
theorem KNM.s {V W : VV} (ho : MO V) (h : KNM V W) (h0 : W 55 39 ≠ 0) : (1 ≤ W 55 39 ∧ W 55 39 ≤ 5) ∧ 0 ≤ W 55 40 ∧ W 55 40 ≤ 6 := by
  have := h.2.1.1.b ho.1 h0
  have hb := ho.b
  exact ⟨this.1, by omega⟩
theorem itM_b {V W : VV} {R : Int → Int} (ho : MO V) (h : KNM V W) (h0 : W 55 39 ≠ 0) (hn : 1 ≤ V 55 5 ∧ V 55 5 ≤ 16) (hR : ∀ k, 0 ≤ k → k < V 55 5 → 0 ≤ R k ∧ R k < V 55 1) : ∀ t : Nat, (∀ s, 0 ≤ s → s < (t : Int) → ∀ k, 0 ≤ k → k < V 55 5 → itM W R (s + 1).toNat k ≠ -1) → ∀ k, 0 ≤ k → k < V 55 5 → 0 ≤ itM W R t k ∧ itM W R t k < V 55 1
  | 0, _ => hR
  | t + 1, hs => fun k k0 k1 => by
    have ih := itM_b ho h h0 hn hR t (fun s s0 s1 => hs s s0 (by omega))
    have hb := ho.b
    have w5 : W 55 5 = V 55 5 := h.2.2.1 5 (by decide) (by decide) (by decide) (by decide)
    have w1 : W 55 1 = V 55 1 := h.2.2.1 1 (by decide) (by decide) (by decide) (by decide)
    have hne := hs t (by omega) (by omega) k k0 k1
    rw [show ((t : Int) + 1).toNat = t + 1 by omega] at hne
    show 0 ≤ rowM W (itM W R t) k ∧ rowM W (itM W R t) k < V 55 1
    have hne' : rowM W (itM W R t) k ≠ -1 := hne
    unfold rowM at hne' ⊢
    have cb := codeF_b (b := W 55 1) (R := fun i => itM W R t ((k - W 55 40 + W 55 2 - 2 + i) % W 55 5)) (by omega) (W 55 39).toNat (fun z a b => by rw [w5, w1]; exact ih _ (md_b _ hn.1).1 (md_b _ hn.1).2)
    rw [w1] at cb hne' ⊢
    rcases (h.2.1.2 h0).2 _ cb.1 cb.2 with q | ⟨x, x0, x1, x2⟩
    · exact absurd q hne'
    · rw [← x2, (h.2.1.2 h0).1 x x0 x1]
      exact md_b _ (by omega)
def KNB (V V' : VV) : Prop := V' 55 38 = 1 ∧ MIV V' (V 58) (V 55 1) (V 55 3) (V 55 2) ∧ (∀ b, b ≠ 0 → b ≠ 21 → b ≠ 38 → b ≠ 39 → b ≠ 40 → V' 55 b = V 55 b) ∧ ∀ a b, a ≠ 55 → a ≠ 59 → a ≠ 67 → a ≠ 73 → a ≠ 74 → a ≠ 84 → a ≠ 86 → V' a b = V a b
theorem KNB_q {V W Q : VV} (h : KNM V W) (hF : ∀ b, Q 55 b = W 55 b) (hC : ∀ a b, a ≠ 59 → a ≠ 84 → a ≠ 86 → Q a b = W a b) : KNB V Q :=
  ⟨(hF 38).trans h.1, MIV_c (hF 39) (hF 40) (funext fun b => hC 74 b (by decide) (by decide) (by decide)) h.2.1, fun b b0 b1 b2 b3 b4 => (hF b).trans (h.2.2.1 b b0 b2 b3 b4), fun a b a0 a1 a2 a3 a4 a5 a6 => (hC a b a1 a5 a6).trans (h.2.2.2 a b a0 a3 a4)⟩
theorem KNB_u {V Q : VV} {j x : Int} (h : KNB V Q) (hj : j = 0 ∨ j = 21) : KNB V (up Q 55 j x) :=
  ⟨by rw [up_n _ (by omega)]; exact h.1, MIV_c (up_n _ (by omega)) (up_n _ (by omega)) (up_r _ (by decide)) h.2.1, fun b b0 b1 b2 b3 b4 => by rw [up_n _ (by omega)]; exact h.2.2.1 b b0 b1 b2 b3 b4, fun a b a0 a1 a2 a3 a4 a5 a6 => by rw [up_n _ (by omega)]; exact h.2.2.2 a b a0 a1 a2 a3 a4 a5 a6⟩
theorem KNB_r {V Q R : VV} (h : KNB V Q) (hF : ∀ b, b ≠ 21 → R 55 b = Q 55 b) (hC : ∀ a b, a ≠ 55 → a ≠ 59 → a ≠ 67 → R a b = Q a b) : KNB V R :=
  ⟨(hF 38 (by decide)).trans h.1, MIV_c (hF 39 (by decide)) (hF 40 (by decide)) (funext fun b => hC 74 b (by decide) (by decide) (by decide)) h.2.1, fun b b0 b1 b2 b3 b4 => (hF b b1).trans (h.2.2.1 b b0 b1 b2 b3 b4), fun a b a0 a1 a2 a3 a4 a5 a6 => (hC a b a0 a1 a2).trans (h.2.2.2 a b a0 a1 a2 a3 a4 a5 a6)⟩
theorem KPS_q {V Q W : VV} (h : KPS Q W) (h21 : Q 55 21 = V 55 21) (h3 : Q 55 3 = V 55 3) (h5 : Q 55 5 = V 55 5) (h58 : ∀ b, Q 58 b = V 58 b) (h67 : ∀ b, Q 67 b = V 67 b) (h59 : ∀ k, 0 ≤ k → k < V 55 5 → Q 59 k = V 59 k) : KPS V W := by
  have e : kpP Q = kpP V := by unfold kpP; rw [h21]
  obtain ⟨a, b, c, d, f⟩ := h
  rw [e] at a b c d f
  rw [h21] at b
  rw [h3] at c
  rw [h5] at d f
  exact ⟨a, fun j j0 j1 => by rw [b j j0 j1, h67, h67], fun e e0 e1 => (c e e0 e1).trans (h58 e), fun k k0 k1 => (d k k0 k1).trans (h59 k k0 k1), f⟩
theorem un_58 {V Y : VV} {e t : Int} (he : 0 ≤ e) (h : ∀ j, Y 58 j = if 0 ≤ j ∧ j < e then V 67 (t + j) else V 58 j) : ∀ j, (up Y 58 e (V 67 (t + e))) 58 j = if 0 ≤ j ∧ j < e + 1 then V 67 (t + j) else V 58 j := fun j => by
  by_cases q : j = e
  · rw [q, up_s, if_pos (by omega)]
  · rw [up_n _ (fun r => q r.2), h]
    by_cases r : 0 ≤ j ∧ j < e
    · rw [if_pos r, if_pos (show 0 ≤ j ∧ j < e + 1 by omega)]
    · rw [if_neg r, if_neg (show ¬ (0 ≤ j ∧ j < e + 1) by omega)]
theorem un_fl {V : VV} {e t z w9 v9 : Int} (h : w9 = 1 → v9 = 1 ∧ ∀ i, 0 ≤ i → i < e → V 58 i = V 67 (t + i)) (hz : z = 0 ∨ z = 1 ∧ w9 = 1 ∧ V 58 e = V 67 (t + e)) (q : z = 1) : v9 = 1 ∧ ∀ i, 0 ≤ i → i < e + 1 → V 58 i = V 67 (t + i) := by
  rcases hz with r | ⟨-, r1, r2⟩
  · omega
  · exact ⟨(h r1).1, lt_stepI (h r1).2 r2⟩
theorem bk_t {a t : Int} (h0 : 0 ≤ t ∧ t ≤ a) (h : ¬ a ≤ t) : 0 ≤ t + 1 ∧ t + 1 ≤ a := by omega
theorem bk_d {a t : Int} {f : Nat} (h : ¬ a ≤ t) (hm : (a - t).toNat < f + 1) : (a - (t + 1)).toNat < f := by omega
theorem one_ofg {x : Int} (h : x = 0 ∨ x = 1) (h1 : ¬ x = 0) : x = 1 := h.resolve_left h1
set_option maxHeartbeats 4000000 in
theorem ok_X12_back {V : VV} {a : Int} (hmo : MO V) (htm : TRM V) (hik : V 55 38 ≠ 0 → MIV V (V 58) (V 55 1) (V 55 3) (V 55 2)) (hnm : 1 ≤ V 55 5 ∧ V 55 5 ≤ 16) (hpm : 0 ≤ V 55 21 ∧ V 55 21 ≤ 10) (hrn : ∀ k, 0 ≤ k → k < V 55 5 → 0 ≤ V 59 k ∧ V 59 k < V 55 1) : Ok NA yX12_back cX12_back 5 (some .int) 3 70 [vA 55, vI a] V (pI (fun x9 V' => ((1 ≤ a ∧ a ≤ 100) ∧ V' 55 39 ≠ 0 ∧ (∀ s, 0 ≤ s → s < a → ∀ k, 0 ≤ k → k < V 55 5 → itM V' (V 59) (s + 1).toNat k ≠ -1) ∧ (∀ k, 0 ≤ k → k < V 55 5 → V' 59 k = itM V' (V 59) (a).toNat k) ∧ x9 = cntI (fun k => V' 59 k != V 59 k) (V 55 5).toNat ∧ V' 55 0 = 0 ∧ KPS V V' ∧ KNB V V') ∨ (¬ (1 ≤ a ∧ a ≤ 100) ∧ x9 = 0 ∧ V' = up (up V 55 0 0) 55 0 1) ∨ ((1 ≤ a ∧ a ≤ 100) ∧ x9 = 0 ∧ V' 55 39 = 0 ∧ KNM V V' ∧ V' 55 0 = 2) ∨ ((1 ≤ a ∧ a ≤ 100) ∧ x9 = 0 ∧ V' 55 39 ≠ 0 ∧ (∃ t, 0 ≤ t ∧ t < a ∧ (∀ s, 0 ≤ s → s < t → ∀ k, 0 ≤ k → k < V 55 5 → itM V' (V 59) (s + 1).toNat k ≠ -1) ∧ ∃ k, 0 ≤ k ∧ k < V 55 5 ∧ itM V' (V 59) (t + 1).toNat k = -1) ∧ V' 55 0 = 3 ∧ V' 55 21 = V 55 21 ∧ (∀ j, V' 67 j = V 67 j) ∧ (∀ k, 0 ≤ k → k < V 55 5 → V' 59 k = V 59 k) ∧ KNB V V'))) := by
  refine Ok.intro (by decide +kernel) (Nat.le_of_ble_eq_true rfl) (fun X G hX hG hR hoa hoV => ?_)
  show J X G 0 [vA 55, vI a, vU, vU, vU] [] V
  have hb9 := hmo.b
  refine j_al0 hX dX12_back_0 rfl ?_
  refine j_iconst hX dX12_back_1 ⟨by decide, by decide⟩ ?_
  refine j_putI hX hG fp_X12_126 rfl (by decide) dX12_back_2 ?_
  obtain ⟨U, hU⟩ : ∃ U, U = up V 55 0 0 := ⟨_, rfl⟩
  rw [← hU]
  have u0 : U 55 0 = 0 := by rw [hU]; exact up_s ..
  have uF : ∀ b, b ≠ 0 → U 55 b = V 55 b := fun b hb => by rw [hU]; exact up_n _ (fun q => hb q.2)
  have uC : ∀ a b, a ≠ 55 → U a b = V a b := fun a b ha => by rw [hU]; exact up_n _ (fun q => ha q.1)
  have moU : MO U := hmo.t uF
  have e58 : U 58 = V 58 := funext fun b => uC 58 b (by decide)
  have e1 := uF 1 (by decide)
  have e2 := uF 2 (by decide)
  have e3 := uF 3 (by decide)
  have tmU : TRM U := by unfold TRM; rw [e1, e3, e58]; exact htm
  have ikU : U 55 38 ≠ 0 → MIV U (U 58) (U 55 1) (U 55 3) (U 55 2) := fun q => by
    rw [e58, e1, e2, e3]
    exact MIV_c (uF 39 (by decide)) (uF 40 (by decide)) (funext fun b => uC 74 b (by decide)) (hik (by rw [← uF 38 (by decide)]; exact q))
  have fU : fI V U := by rw [hU]; exact fI_u fI_0 (Or.inl rfl)
  refine j_al0 hX dX12_back_5 rfl ?_
  refine j_il1 hX dX12_back_6 ?_
  refine j_iconst hX dX12_back_7 ⟨by decide, by decide⟩ ?_
  refine j_bipush hX dX12_back_8 (by decide) ⟨by decide, by decide⟩ ?_
  refine j_pSI3 hX hG lk_X12_172 (ok_X12_isIn ) (Nat.le_of_ble_eq_true rfl) (Nat.le_of_ble_eq_true rfl) (Nat.le_of_ble_eq_true rfl) rfl dX12_back_10 ?_
  refine j_iconst hX dX12_back_13 ⟨by decide, by decide⟩ ?_
  refine j_cVI2 (ci := 12) hX hG lk_X12_168 (ok_X12_may u0 (by decide)) (by decide) rfl (Nat.le_of_ble_eq_true rfl) (Nat.le_of_ble_eq_true rfl) (Nat.le_of_ble_eq_true rfl) rfl dX12_back_14 (fun x_14 V_14 h_14 => ?_)
  skip
  refine j_if_eq (tgt := 32) hX dX12_back_17 (by decide) (fun h_17 => ?_) (fun h_17 => ?_)
  · skip
    refine j_iconst hX dX12_back_32 ⟨by decide, by decide⟩ ?_
    exact j_retI hR dX12_back_33 (by
      first
      | exact Or.inr (Or.inl ⟨fun q => h_14.elim (fun r => absurd r.2.1 (by omega)) (fun r => by rw [if_pos q] at r; exact absurd r.1 (by decide)), rfl, by rw [(h_14.elim (fun r => absurd r.2.1 (by omega)) id).2.2, hU]⟩)
      | exact (by
          obtain ⟨c_26, -, w_26⟩ := h_26.elim (fun q => absurd q.2.1 (by omega)) id
          have c39 : V_22 55 39 = 0 := by
            rw [x_22e] at c_26
            by_cases q : 0 < V_22 55 39
            · rw [if_pos q] at c_26; exact absurd c_26 (by decide)
            · omega
          rw [w_26]
          exact Or.inr (Or.inr (Or.inl ⟨c9, rfl, by rw [up_n _ (by decide)]; exact c39, kn.u0 2, up_s ..⟩))))
  · skip
    obtain ⟨c_14, -, w_14⟩ := h_14.elim id (fun q => absurd q.2.1 (by omega))
    have w2_14 := w_14.symm
    subst w2_14
    have c9 : (1 ≤ a ∧ a ≤ 100) := Classical.byContradiction fun q => c_14 (by rw [if_neg q])
    refine j_al0 hX dX12_back_20 rfl ?_
    refine j_al0 hX dX12_back_21 rfl ?_
    refine j_cVI0 (ci := 12) hX hG lk_X12_364 (ok_X12_isInverted moU tmU ikU) (by decide) rfl (Nat.le_of_ble_eq_true rfl) (Nat.le_of_ble_eq_true rfl) (Nat.le_of_ble_eq_true rfl) rfl dX12_back_22 (fun x_22 V_22 h_22 => ?_)
    obtain ⟨x_22e, k_22, m_22, f_22, z_22⟩ := h_22
    rw [e58, e1, e2, e3] at m_22
    have v0 : V_22 55 0 = 0 := z_22.trans u0
    have hb9 := hmo.b
    have kn : KNM V V_22 := ⟨k_22, m_22, fI_t fU f_22⟩
    have k1 : V_22 55 1 = V 55 1 := kn.2.2.1 1 (by decide) (by decide) (by decide) (by decide)
    have mo2 : MO V_22 := by unfold MO; rw [k1, kn.2.2.1 2 (by decide) (by decide) (by decide) (by decide), kn.2.2.1 3 (by decide) (by decide) (by decide) (by decide), kn.2.2.1 4 (by decide) (by decide) (by decide) (by decide)]; exact hmo
    have hb39 := KNM.b hmo kn
    refine j_iconst hX dX12_back_25 ⟨by decide, by decide⟩ ?_
    refine j_cVI2 (ci := 12) hX hG lk_X12_168 (ok_X12_may v0 (by decide)) (by decide) rfl (Nat.le_of_ble_eq_true rfl) (Nat.le_of_ble_eq_true rfl) (Nat.le_of_ble_eq_true rfl) rfl dX12_back_26 (fun x_26 V_26 h_26 => ?_)
    skip
    refine j_if_ne (tgt := 34) hX dX12_back_29 (by decide) (fun h_29 => ?_) (fun h_29 => ?_)
    · skip
      obtain ⟨c_26, -, w_26⟩ := h_26.elim id (fun q => absurd q.2.1 (by omega))
      have w2_26 := w_26.symm
      subst w2_26
      have c39 : 0 < V_22 55 39 := Classical.byContradiction fun q => c_26 (by rw [x_22e, if_neg q])
      have v5 : V_22 55 5 = V 55 5 := kn.2.2.1 5 (by decide) (by decide) (by decide) (by decide)
      have v59 : ∀ k, V_22 59 k = V 59 k := fun k => kn.2.2.2 59 k (by decide) (by decide) (by decide)
      have hsh := KNM.s hmo kn (by omega)
      refine j_iconst hX dX12_back_34 ⟨by decide, by decide⟩ ?_
      refine j_is2 hX dX12_back_35 rfl ?_
      have lp_36 : ∀ (f9 : Nat) (i : Int) (A : VV), (0 ≤ i ∧ i ≤ V 55 5) → (fr [86] V_22 A) → (∀ j, 0 ≤ j → j < i → A 86 j = V 59 j) → ((V 55 5 - i).toNat) < f9 → J X G 36 [vA 55, vI a, vI i, vU, vU] [] A := by
        intro f9
        induction f9 with
        | zero => intro i A _ _ _ hm; exact absurd hm (Nat.not_lt_zero _)
        | succ f9 ih_36 =>
          intro i A hi hA hD hm
          refine j_il2 hX dX12_back_36 ?_
          have f5_A : A 55 5 = V 55 5 := (hA 55 5 (by decide)).trans v5
          refine j_al0 hX dX12_back_37 rfl ?_
          refine j_getI hX hG fl_X12_142 (Or.inl rfl) (by decide) dX12_back_38 ?_
          refine j_fx (x := V 55 5) (by first | assumption | rfl) ?_
          refine j_icmp_ge (tgt := 62) hX dX12_back_41 (by decide) (fun h_41 => ?_) (fun h_41 => ?_)
          · skip
            have f5_A : A 55 5 = V 55 5 := (hA 55 5 (by decide)).trans v5
            refine j_iconst hX dX12_back_62 ⟨by decide, by decide⟩ ?_
            refine j_is2 hX dX12_back_63 rfl ?_
            refine j_iconst hX dX12_back_64 ⟨by decide, by decide⟩ ?_
            refine j_is3 hX dX12_back_65 rfl ?_
            have lp_66 : ∀ (f9 : Nat) (z t : Int) (X1 : VV), (0 ≤ t ∧ t ≤ a) → (fr [59, 84] A X1) → ((z = 1 ∧ (∀ k, 0 ≤ k → k < V 55 5 → X1 59 k = itM V_22 (V 59) (t).toNat k) ∧ (∀ s, 0 ≤ s → s < t → ∀ k, 0 ≤ k → k < V 55 5 → itM V_22 (V 59) (s + 1).toNat k ≠ -1)) ∨ (z = 0 ∧ ∃ t, 0 ≤ t ∧ t < a ∧ (∀ s, 0 ≤ s → s < t → ∀ k, 0 ≤ k → k < V 55 5 → itM V_22 (V 59) (s + 1).toNat k ≠ -1) ∧ ∃ k, 0 ≤ k ∧ k < V 55 5 ∧ itM V_22 (V 59) (t + 1).toNat k = -1)) → ((a - t).toNat) < f9 → J X G 66 [vA 55, vI a, vI z, vI t, vU] [] X1 := by
              intro f9
              induction f9 with
              | zero => intro z t X1 _ _ _ hm; exact absurd hm (Nat.not_lt_zero _)
              | succ f9 ih_66 =>
                intro z t X1 ht hx hZ hm
                refine j_il3 hX dX12_back_66 ?_
                refine j_il1 hX dX12_back_67 ?_
                refine j_icmp_ge (tgt := 86) hX dX12_back_68 (by decide) (fun h_68 => ?_) (fun h_68 => ?_)
                · skip
                  have xF : ∀ b, X1 55 b = V_22 55 b := fun b => (hx 55 b (by decide)).trans (hA 55 b (by decide))
                  have x86 : ∀ i, 0 ≤ i → i < V 55 5 → X1 86 i = V 59 i := fun i a b => (hx 86 i (by decide)).trans (hD i a (by omega))
                  have hta : z ≠ 0 → t = a := fun q => by first | omega | exact absurd h_72 q
                  refine j_iconst hX dX12_back_86 ⟨by decide, by decide⟩ ?_
                  refine j_is3 hX dX12_back_87 rfl ?_
                  have lp_88 : ∀ (f9 : Nat) (m : Int) (Q : VV), (0 ≤ m ∧ m ≤ V 55 5) → (fr [59, 86] X1 Q) → (∀ i, 0 ≤ i → i < m → Q 59 i = V 59 i ∧ Q 86 i = X1 59 i) → (∀ i, m ≤ i → Q 59 i = X1 59 i ∧ Q 86 i = X1 86 i) → ((V 55 5 - m).toNat) < f9 → J X G 88 [vA 55, vI a, vI z, vI m, vU] [] Q := by
                    intro f9
                    induction f9 with
                    | zero => intro m Q _ _ _ _ hm; exact absurd hm (Nat.not_lt_zero _)
                    | succ f9 ih_88 =>
                      intro m Q hm1 hq hQ1 hQ2 hm
                      refine j_il3 hX dX12_back_88 ?_
                      have f5_Q : Q 55 5 = V 55 5 := (hq 55 5 (by decide)).trans ((xF 5).trans v5)
                      refine j_al0 hX dX12_back_89 rfl ?_
                      refine j_getI hX hG fl_X12_142 (Or.inl rfl) (by decide) dX12_back_90 ?_
                      refine j_fx (x := V 55 5) (by first | assumption | rfl) ?_
                      refine j_icmp_ge (tgt := 130) hX dX12_back_93 (by decide) (fun h_93 => ?_) (fun h_93 => ?_)
                      · skip
                        have qF : ∀ b, Q 55 b = V_22 55 b := fun b => (hq 55 b (by decide)).trans (xF b)
                        have q0 : Q 55 0 = 0 := (qF 0).trans v0
                        have qC : ∀ a b, a ≠ 59 → a ≠ 84 → a ≠ 86 → Q a b = V_22 a b := fun a b a0 a1 a2 => (hq a b (by simp; omega)).trans ((hx a b (by simp; omega)).trans (hA a b (by simpa using a2)))
                        have q59 : ∀ k, 0 ≤ k → k < V 55 5 → Q 59 k = V 59 k := fun k a b => (hQ1 k a (by omega)).1
                        have qit : ∀ t, itM Q (V 59) t = itM V_22 (V 59) t := itM_c (qF 1) (qF 2) (qF 5) (qF 39) (qF 40) (funext fun b => qC 74 b (by decide) (by decide) (by decide))
                        have qkb : KNB V Q := KNB_q kn qF qC
                        refine j_al0 hX dX12_back_130 rfl ?_
                        refine j_il2 hX dX12_back_131 ?_
                        refine j_iconst hX dX12_back_132 ⟨by decide, by decide⟩ ?_
                        refine j_cVI2 (ci := 12) hX hG lk_X12_168 (ok_X12_may q0 (by decide)) (by decide) rfl (Nat.le_of_ble_eq_true rfl) (Nat.le_of_ble_eq_true rfl) (Nat.le_of_ble_eq_true rfl) rfl dX12_back_133 (fun x_133 V_133 h_133 => ?_)
                        skip
                        refine j_if_ne (tgt := 141) hX dX12_back_136 (by decide) (fun h_136 => ?_) (fun h_136 => ?_)
                        · skip
                          obtain ⟨c_133, -, w_133⟩ := h_133.elim id (fun q => absurd q.2.1 (by omega))
                          have w2_133 := w_133.symm
                          subst w2_133
                          have moQ : MO Q := mo2.t (fun b _ => qF b)
                          have hz1 := hZ.elim id (fun q => absurd q.1 c_133)
                          have v21 : V_22 55 21 = V 55 21 := kn.2.2.1 21 (by decide) (by decide) (by decide) (by decide)
                          refine j_al0 hX dX12_back_141 rfl ?_
                          refine j_cVV0 (ci := 12) hX hG lk_X12_328 (ok_X12_keeps moQ (by rw [qF 5, v5]; exact hnm) (by rw [qF 21, v21]; exact hpm)) (by decide) rfl (Nat.le_of_ble_eq_true rfl) (Nat.le_of_ble_eq_true rfl) (Nat.le_of_ble_eq_true rfl) rfl dX12_back_142 (fun V_142 h_142 => ?_)
                          obtain ⟨k_142, f_142⟩ := h_142
                          have K : KPS V V_142 := KPS_q k_142 ((qF 21).trans v21) ((qF 3).trans (kn.2.2.1 3 (by decide) (by decide) (by decide) (by decide))) ((qF 5).trans v5) (fun b => (qC 58 b (by decide) (by decide) (by decide)).trans (kn.2.2.2 58 b (by decide) (by decide) (by decide))) (fun b => (qC 67 b (by decide) (by decide) (by decide)).trans (kn.2.2.2 67 b (by decide) (by decide) (by decide))) q59
                          refine j_iconst hX dX12_back_145 ⟨by decide, by decide⟩ ?_
                          refine j_is3 hX dX12_back_146 rfl ?_
                          have lp_147 : ∀ (f9 : Nat) (m : Int) (R9 : VV), (0 ≤ m ∧ m ≤ V 55 5) → (fr [59] V_142 R9) → (∀ i, 0 ≤ i → i < m → R9 59 i = X1 59 i) → ((V 55 5 - m).toNat) < f9 → J X G 147 [vA 55, vI a, vI z, vI m, vU] [] R9 := by
                            intro f9
                            induction f9 with
                            | zero => intro m R9 _ _ _ hm; exact absurd hm (Nat.not_lt_zero _)
                            | succ f9 ih_147 =>
                              intro m R9 hm2 hr9 hS hm
                              refine j_il3 hX dX12_back_147 ?_
                              have f5_R9 : R9 55 5 = V 55 5 := (hr9 55 5 (by decide)).trans ((f_142.1 5 (by decide)).trans ((qF 5).trans v5))
                              refine j_al0 hX dX12_back_148 rfl ?_
                              refine j_getI hX hG fl_X12_142 (Or.inl rfl) (by decide) dX12_back_149 ?_
                              refine j_fx (x := V 55 5) (by first | assumption | rfl) ?_
                              refine j_icmp_ge (tgt := 173) hX dX12_back_152 (by decide) (fun h_152 => ?_) (fun h_152 => ?_)
                              · skip
                                have w21 : R9 55 21 = kpP V + 1 := (hr9 55 21 (by decide)).trans K.1
                                have kb := kp_b hpm
                                have f5_R9 : R9 55 5 = V 55 5 := (hr9 55 5 (by decide)).trans ((f_142.1 5 (by decide)).trans ((qF 5).trans v5))
                                refine j_al0 hX dX12_back_173 rfl ?_
                                refine j_pVI0 (ci := 12) hX hG lk_X12_433 (ok_X12_others (by omega) (by omega)) (by decide) rfl (Nat.le_of_ble_eq_true rfl) (Nat.le_of_ble_eq_true rfl) (Nat.le_of_ble_eq_true rfl) rfl dX12_back_174 ?_
                                exact j_retI hR dX12_back_177 (by
      have rF : ∀ b, b ≠ 21 → R9 55 b = V_22 55 b := fun b hb => (hr9 55 b (by decide)).trans ((f_142.1 b hb).trans (qF b))
      have rC : ∀ a b, a ≠ 55 → a ≠ 59 → a ≠ 67 → R9 a b = Q a b := fun a b a0 a1 a2 => (hr9 a b (by simpa using a1)).trans (f_142.2 a b a0 a2)
      have e9 : ∀ t, itM R9 (V 59) t = itM V_22 (V 59) t := fun t => (itM_c (rF 1 (by decide)) (rF 2 (by decide)) (rF 5 (by decide)) (rF 39 (by decide)) (rF 40 (by decide)) (funext fun b => (rC 74 b (by decide) (by decide) (by decide)).trans (qC 74 b (by decide) (by decide) (by decide))) t)
      have ta : t = a := hta c_133
      have s9 : ∀ k, 0 ≤ k → k < V 55 5 → R9 59 k = itM V_22 (V 59) a.toNat k := fun k a b => by
        rw [hS k a (by omega), hz1.2.1 k a b, ta]
      simp only [e9]
      refine Or.inl ⟨c9, by rw [rF 39 (by decide)]; omega, by rw [← ta]; exact hz1.2.2, s9, ?_, (rF 0 (by decide)).trans v0, K.d2 (hr9 55 21 (by decide)) (fun b => hr9 67 b (by decide)), KNB_r qkb (fun b hb => (rF b hb).trans (qF b).symm) rC⟩
      rw [f5_R9]
      refine cntI_c _ fun k k0 k1 => ?_
      rw [w21, show 234 * (kpP V + 1) - 234 + 216 + k = 234 * kpP V + 216 + k by omega, hr9 67 _ (by decide), K.2.2.2.1 k k0 (by omega)])
                              · skip
                                refine j_al0 hX dX12_back_155 rfl ?_
                                refine j_getR (q := 59) hX hG fl_X12_19 rfl rfl (by decide) dX12_back_156 ?_
                                refine j_il3 hX dX12_back_159 ?_
                                refine j_al0 hX dX12_back_160 rfl ?_
                                refine j_getR (q := 86) hX hG fl_X12_107 rfl rfl (by decide) dX12_back_161 ?_
                                refine j_il3 hX dX12_back_164 ?_
                                refine j_iald (n := 16) hX hG (by decide) (by omega) dX12_back_165 ?_
                                refine j_iast (n := 16) hX hG (by decide) (by omega) dX12_back_166 ?_
                                refine j_inc3 hX dX12_back_167 rfl (by omega) ?_
                                refine j_goto (tgt := 147) hX dX12_back_170 (by decide) ?_
                                exact ih_147 _ _ (by omega) (fr_u hr9 (by decide)) (lt_stepI (fun i a b => by rw [up_n _ (by omega)]; exact hS i a b) (by rw [up_s, hr9 86 _ (by decide), f_142.2 86 _ (by decide) (by decide)]; exact (hQ1 _ (by omega) (by omega)).2)) (by omega)
                          exact lp_147 _ 0 _ ⟨by decide, by omega⟩ fr_0 (fun i a b => by omega) (Nat.lt_succ_self _)
                        · skip
                          refine j_iconst hX dX12_back_139 ⟨by decide, by decide⟩ ?_
                          exact j_retI hR dX12_back_140 (by
      obtain ⟨c_133, -, w_133⟩ := h_133.elim (fun q => absurd q.2.1 (by omega)) id
      rw [w_133]
      refine Or.inr (Or.inr (Or.inr ⟨c9, rfl, by rw [up_n _ (by decide), qF 39]; omega, ?_, up_s .., by rw [up_n _ (by decide), qF 21]; exact kn.2.2.1 21 (by decide) (by decide) (by decide) (by decide), fun j => by rw [up_n _ (by omega), qC 67 j (by decide) (by decide) (by decide)]; exact kn.2.2.2 67 j (by decide) (by decide) (by decide), fun k a b => by rw [up_n _ (by omega)]; exact q59 k a b, KNB_u qkb (Or.inl rfl)⟩))
      have e9 : ∀ t, itM (up Q 55 0 3) (V 59) t = itM V_22 (V 59) t := fun t => (itM_c (up_n _ (by decide)) (up_n _ (by decide)) (up_n _ (by decide)) (up_n _ (by decide)) (up_n _ (by decide)) (up_r _ (by decide)) t).trans (qit t)
      simp only [e9]
      exact (hZ.elim (fun q => absurd q.1 (by omega)) (fun q => q.2)))
                      · skip
                        refine j_al0 hX dX12_back_96 rfl ?_
                        refine j_getR (q := 59) hX hG fl_X12_19 rfl rfl (by decide) dX12_back_97 ?_
                        refine j_il3 hX dX12_back_100 ?_
                        refine j_iald (n := 16) hX hG (by decide) (by omega) dX12_back_101 ?_
                        refine j_is4 hX dX12_back_102 rfl ?_
                        refine j_al0 hX dX12_back_104 rfl ?_
                        refine j_getR (q := 59) hX hG fl_X12_19 rfl rfl (by decide) dX12_back_105 ?_
                        refine j_il3 hX dX12_back_108 ?_
                        refine j_al0 hX dX12_back_109 rfl ?_
                        refine j_getR (q := 86) hX hG fl_X12_107 rfl rfl (by decide) dX12_back_110 ?_
                        refine j_il3 hX dX12_back_113 ?_
                        refine j_iald (n := 16) hX hG (by decide) (by omega) dX12_back_114 ?_
                        refine j_iast (n := 16) hX hG (by decide) (by omega) dX12_back_115 ?_
                        refine j_al0 hX dX12_back_116 rfl ?_
                        refine j_getR (q := 86) hX hG fl_X12_107 rfl rfl (by decide) dX12_back_117 ?_
                        refine j_il3 hX dX12_back_120 ?_
                        refine j_il4 hX dX12_back_121 ?_
                        refine j_iast (n := 16) hX hG (by decide) (by omega) dX12_back_123 ?_
                        refine j_inc3 hX dX12_back_124 rfl (by omega) ?_
                        refine j_goto (tgt := 88) hX dX12_back_127 (by decide) ?_
                        refine j_fg4 ?_
                        exact ih_88 _ _ (by omega) (fr_u (fr_u hq (by decide)) (by decide)) (lt_stepI (fun i a b => ⟨by rw [up_n _ (by omega), up_n _ (by omega)]; exact (hQ1 i a b).1, by rw [up_n _ (by omega), up_n _ (by omega)]; exact (hQ1 i a b).2⟩) ⟨by rw [up_n _ (by omega), up_s, (hQ2 m (Int.le_refl _)).2]; exact x86 m hm1.1 (by omega), by rw [up_s]; exact (hQ2 m (Int.le_refl _)).1⟩) (fun i hi9 => ⟨by rw [up_n _ (by omega), up_n _ (by omega)]; exact (hQ2 i (by omega)).1, by rw [up_n _ (by omega), up_n _ (by omega)]; exact (hQ2 i (by omega)).2⟩) (by omega)
                  exact lp_88 _ 0 _ ⟨by decide, by omega⟩ fr_0 (fun i a b => by omega) (fun i _ => ⟨rfl, rfl⟩) (Nat.lt_succ_self _)
                · skip
                  have xF : ∀ b, X1 55 b = V_22 55 b := fun b => (hx 55 b (by decide)).trans (hA 55 b (by decide))
                  have moX : MO X1 := mo2.t (fun b _ => xF b)
                  have xr : rowM X1 = rowM V_22 := rowM_c (xF 1) (xF 2) (xF 5) (xF 39) (xF 40) ((funext fun b => (hx 74 b (by decide)).trans (hA 74 b (by decide))))
                  refine j_il2 hX dX12_back_71 ?_
                  refine j_if_eq (tgt := 86) hX dX12_back_72 (by decide) (fun h_72 => ?_) (fun h_72 => ?_)
                  · skip
                    have xF : ∀ b, X1 55 b = V_22 55 b := fun b => (hx 55 b (by decide)).trans (hA 55 b (by decide))
                    have x86 : ∀ i, 0 ≤ i → i < V 55 5 → X1 86 i = V 59 i := fun i a b => (hx 86 i (by decide)).trans (hD i a (by omega))
                    have hta : z ≠ 0 → t = a := fun q => by first | omega | exact absurd h_72 q
                    refine j_iconst hX dX12_back_86 ⟨by decide, by decide⟩ ?_
                    refine j_is3 hX dX12_back_87 rfl ?_
                    have lp_88 : ∀ (f9 : Nat) (m : Int) (Q : VV), (0 ≤ m ∧ m ≤ V 55 5) → (fr [59, 86] X1 Q) → (∀ i, 0 ≤ i → i < m → Q 59 i = V 59 i ∧ Q 86 i = X1 59 i) → (∀ i, m ≤ i → Q 59 i = X1 59 i ∧ Q 86 i = X1 86 i) → ((V 55 5 - m).toNat) < f9 → J X G 88 [vA 55, vI a, vI z, vI m, vU] [] Q := by
                      intro f9
                      induction f9 with
                      | zero => intro m Q _ _ _ _ hm; exact absurd hm (Nat.not_lt_zero _)
                      | succ f9 ih_88 =>
                        intro m Q hm1 hq hQ1 hQ2 hm
                        refine j_il3 hX dX12_back_88 ?_
                        have f5_Q : Q 55 5 = V 55 5 := (hq 55 5 (by decide)).trans ((xF 5).trans v5)
                        refine j_al0 hX dX12_back_89 rfl ?_
                        refine j_getI hX hG fl_X12_142 (Or.inl rfl) (by decide) dX12_back_90 ?_
                        refine j_fx (x := V 55 5) (by first | assumption | rfl) ?_
                        refine j_icmp_ge (tgt := 130) hX dX12_back_93 (by decide) (fun h_93 => ?_) (fun h_93 => ?_)
                        · skip
                          have qF : ∀ b, Q 55 b = V_22 55 b := fun b => (hq 55 b (by decide)).trans (xF b)
                          have q0 : Q 55 0 = 0 := (qF 0).trans v0
                          have qC : ∀ a b, a ≠ 59 → a ≠ 84 → a ≠ 86 → Q a b = V_22 a b := fun a b a0 a1 a2 => (hq a b (by simp; omega)).trans ((hx a b (by simp; omega)).trans (hA a b (by simpa using a2)))
                          have q59 : ∀ k, 0 ≤ k → k < V 55 5 → Q 59 k = V 59 k := fun k a b => (hQ1 k a (by omega)).1
                          have qit : ∀ t, itM Q (V 59) t = itM V_22 (V 59) t := itM_c (qF 1) (qF 2) (qF 5) (qF 39) (qF 40) (funext fun b => qC 74 b (by decide) (by decide) (by decide))
                          have qkb : KNB V Q := KNB_q kn qF qC
                          refine j_al0 hX dX12_back_130 rfl ?_
                          refine j_il2 hX dX12_back_131 ?_
                          refine j_iconst hX dX12_back_132 ⟨by decide, by decide⟩ ?_
                          refine j_cVI2 (ci := 12) hX hG lk_X12_168 (ok_X12_may q0 (by decide)) (by decide) rfl (Nat.le_of_ble_eq_true rfl) (Nat.le_of_ble_eq_true rfl) (Nat.le_of_ble_eq_true rfl) rfl dX12_back_133 (fun x_133 V_133 h_133 => ?_)
                          skip
                          refine j_if_ne (tgt := 141) hX dX12_back_136 (by decide) (fun h_136 => ?_) (fun h_136 => ?_)
                          · skip
                            obtain ⟨c_133, -, w_133⟩ := h_133.elim id (fun q => absurd q.2.1 (by omega))
                            have w2_133 := w_133.symm
                            subst w2_133
                            have moQ : MO Q := mo2.t (fun b _ => qF b)
                            have hz1 := hZ.elim id (fun q => absurd q.1 c_133)
                            have v21 : V_22 55 21 = V 55 21 := kn.2.2.1 21 (by decide) (by decide) (by decide) (by decide)
                            refine j_al0 hX dX12_back_141 rfl ?_
                            refine j_cVV0 (ci := 12) hX hG lk_X12_328 (ok_X12_keeps moQ (by rw [qF 5, v5]; exact hnm) (by rw [qF 21, v21]; exact hpm)) (by decide) rfl (Nat.le_of_ble_eq_true rfl) (Nat.le_of_ble_eq_true rfl) (Nat.le_of_ble_eq_true rfl) rfl dX12_back_142 (fun V_142 h_142 => ?_)
                            obtain ⟨k_142, f_142⟩ := h_142
                            have K : KPS V V_142 := KPS_q k_142 ((qF 21).trans v21) ((qF 3).trans (kn.2.2.1 3 (by decide) (by decide) (by decide) (by decide))) ((qF 5).trans v5) (fun b => (qC 58 b (by decide) (by decide) (by decide)).trans (kn.2.2.2 58 b (by decide) (by decide) (by decide))) (fun b => (qC 67 b (by decide) (by decide) (by decide)).trans (kn.2.2.2 67 b (by decide) (by decide) (by decide))) q59
                            refine j_iconst hX dX12_back_145 ⟨by decide, by decide⟩ ?_
                            refine j_is3 hX dX12_back_146 rfl ?_
                            have lp_147 : ∀ (f9 : Nat) (m : Int) (R9 : VV), (0 ≤ m ∧ m ≤ V 55 5) → (fr [59] V_142 R9) → (∀ i, 0 ≤ i → i < m → R9 59 i = X1 59 i) → ((V 55 5 - m).toNat) < f9 → J X G 147 [vA 55, vI a, vI z, vI m, vU] [] R9 := by
                              intro f9
                              induction f9 with
                              | zero => intro m R9 _ _ _ hm; exact absurd hm (Nat.not_lt_zero _)
                              | succ f9 ih_147 =>
                                intro m R9 hm2 hr9 hS hm
                                refine j_il3 hX dX12_back_147 ?_
                                have f5_R9 : R9 55 5 = V 55 5 := (hr9 55 5 (by decide)).trans ((f_142.1 5 (by decide)).trans ((qF 5).trans v5))
                                refine j_al0 hX dX12_back_148 rfl ?_
                                refine j_getI hX hG fl_X12_142 (Or.inl rfl) (by decide) dX12_back_149 ?_
                                refine j_fx (x := V 55 5) (by first | assumption | rfl) ?_
                                refine j_icmp_ge (tgt := 173) hX dX12_back_152 (by decide) (fun h_152 => ?_) (fun h_152 => ?_)
                                · skip
                                  have w21 : R9 55 21 = kpP V + 1 := (hr9 55 21 (by decide)).trans K.1
                                  have kb := kp_b hpm
                                  have f5_R9 : R9 55 5 = V 55 5 := (hr9 55 5 (by decide)).trans ((f_142.1 5 (by decide)).trans ((qF 5).trans v5))
                                  refine j_al0 hX dX12_back_173 rfl ?_
                                  refine j_pVI0 (ci := 12) hX hG lk_X12_433 (ok_X12_others (by omega) (by omega)) (by decide) rfl (Nat.le_of_ble_eq_true rfl) (Nat.le_of_ble_eq_true rfl) (Nat.le_of_ble_eq_true rfl) rfl dX12_back_174 ?_
                                  exact j_retI hR dX12_back_177 (by
      have rF : ∀ b, b ≠ 21 → R9 55 b = V_22 55 b := fun b hb => (hr9 55 b (by decide)).trans ((f_142.1 b hb).trans (qF b))
      have rC : ∀ a b, a ≠ 55 → a ≠ 59 → a ≠ 67 → R9 a b = Q a b := fun a b a0 a1 a2 => (hr9 a b (by simpa using a1)).trans (f_142.2 a b a0 a2)
      have e9 : ∀ t, itM R9 (V 59) t = itM V_22 (V 59) t := fun t => (itM_c (rF 1 (by decide)) (rF 2 (by decide)) (rF 5 (by decide)) (rF 39 (by decide)) (rF 40 (by decide)) (funext fun b => (rC 74 b (by decide) (by decide) (by decide)).trans (qC 74 b (by decide) (by decide) (by decide))) t)
      have ta : t = a := hta c_133
      have s9 : ∀ k, 0 ≤ k → k < V 55 5 → R9 59 k = itM V_22 (V 59) a.toNat k := fun k a b => by
        rw [hS k a (by omega), hz1.2.1 k a b, ta]
      simp only [e9]
      refine Or.inl ⟨c9, by rw [rF 39 (by decide)]; omega, by rw [← ta]; exact hz1.2.2, s9, ?_, (rF 0 (by decide)).trans v0, K.d2 (hr9 55 21 (by decide)) (fun b => hr9 67 b (by decide)), KNB_r qkb (fun b hb => (rF b hb).trans (qF b).symm) rC⟩
      rw [f5_R9]
      refine cntI_c _ fun k k0 k1 => ?_
      rw [w21, show 234 * (kpP V + 1) - 234 + 216 + k = 234 * kpP V + 216 + k by omega, hr9 67 _ (by decide), K.2.2.2.1 k k0 (by omega)])
                                · skip
                                  refine j_al0 hX dX12_back_155 rfl ?_
                                  refine j_getR (q := 59) hX hG fl_X12_19 rfl rfl (by decide) dX12_back_156 ?_
                                  refine j_il3 hX dX12_back_159 ?_
                                  refine j_al0 hX dX12_back_160 rfl ?_
                                  refine j_getR (q := 86) hX hG fl_X12_107 rfl rfl (by decide) dX12_back_161 ?_
                                  refine j_il3 hX dX12_back_164 ?_
                                  refine j_iald (n := 16) hX hG (by decide) (by omega) dX12_back_165 ?_
                                  refine j_iast (n := 16) hX hG (by decide) (by omega) dX12_back_166 ?_
                                  refine j_inc3 hX dX12_back_167 rfl (by omega) ?_
                                  refine j_goto (tgt := 147) hX dX12_back_170 (by decide) ?_
                                  exact ih_147 _ _ (by omega) (fr_u hr9 (by decide)) (lt_stepI (fun i a b => by rw [up_n _ (by omega)]; exact hS i a b) (by rw [up_s, hr9 86 _ (by decide), f_142.2 86 _ (by decide) (by decide)]; exact (hQ1 _ (by omega) (by omega)).2)) (by omega)
                            exact lp_147 _ 0 _ ⟨by decide, by omega⟩ fr_0 (fun i a b => by omega) (Nat.lt_succ_self _)
                          · skip
                            refine j_iconst hX dX12_back_139 ⟨by decide, by decide⟩ ?_
                            exact j_retI hR dX12_back_140 (by
      obtain ⟨c_133, -, w_133⟩ := h_133.elim (fun q => absurd q.2.1 (by omega)) id
      rw [w_133]
      refine Or.inr (Or.inr (Or.inr ⟨c9, rfl, by rw [up_n _ (by decide), qF 39]; omega, ?_, up_s .., by rw [up_n _ (by decide), qF 21]; exact kn.2.2.1 21 (by decide) (by decide) (by decide) (by decide), fun j => by rw [up_n _ (by omega), qC 67 j (by decide) (by decide) (by decide)]; exact kn.2.2.2 67 j (by decide) (by decide) (by decide), fun k a b => by rw [up_n _ (by omega)]; exact q59 k a b, KNB_u qkb (Or.inl rfl)⟩))
      have e9 : ∀ t, itM (up Q 55 0 3) (V 59) t = itM V_22 (V 59) t := fun t => (itM_c (up_n _ (by decide)) (up_n _ (by decide)) (up_n _ (by decide)) (up_n _ (by decide)) (up_n _ (by decide)) (up_r _ (by decide)) t).trans (qit t)
      simp only [e9]
      exact (hZ.elim (fun q => absurd q.1 (by omega)) (fun q => q.2)))
                        · skip
                          refine j_al0 hX dX12_back_96 rfl ?_
                          refine j_getR (q := 59) hX hG fl_X12_19 rfl rfl (by decide) dX12_back_97 ?_
                          refine j_il3 hX dX12_back_100 ?_
                          refine j_iald (n := 16) hX hG (by decide) (by omega) dX12_back_101 ?_
                          refine j_is4 hX dX12_back_102 rfl ?_
                          refine j_al0 hX dX12_back_104 rfl ?_
                          refine j_getR (q := 59) hX hG fl_X12_19 rfl rfl (by decide) dX12_back_105 ?_
                          refine j_il3 hX dX12_back_108 ?_
                          refine j_al0 hX dX12_back_109 rfl ?_
                          refine j_getR (q := 86) hX hG fl_X12_107 rfl rfl (by decide) dX12_back_110 ?_
                          refine j_il3 hX dX12_back_113 ?_
                          refine j_iald (n := 16) hX hG (by decide) (by omega) dX12_back_114 ?_
                          refine j_iast (n := 16) hX hG (by decide) (by omega) dX12_back_115 ?_
                          refine j_al0 hX dX12_back_116 rfl ?_
                          refine j_getR (q := 86) hX hG fl_X12_107 rfl rfl (by decide) dX12_back_117 ?_
                          refine j_il3 hX dX12_back_120 ?_
                          refine j_il4 hX dX12_back_121 ?_
                          refine j_iast (n := 16) hX hG (by decide) (by omega) dX12_back_123 ?_
                          refine j_inc3 hX dX12_back_124 rfl (by omega) ?_
                          refine j_goto (tgt := 88) hX dX12_back_127 (by decide) ?_
                          refine j_fg4 ?_
                          exact ih_88 _ _ (by omega) (fr_u (fr_u hq (by decide)) (by decide)) (lt_stepI (fun i a b => ⟨by rw [up_n _ (by omega), up_n _ (by omega)]; exact (hQ1 i a b).1, by rw [up_n _ (by omega), up_n _ (by omega)]; exact (hQ1 i a b).2⟩) ⟨by rw [up_n _ (by omega), up_s, (hQ2 m (Int.le_refl _)).2]; exact x86 m hm1.1 (by omega), by rw [up_s]; exact (hQ2 m (Int.le_refl _)).1⟩) (fun i hi9 => ⟨by rw [up_n _ (by omega), up_n _ (by omega)]; exact (hQ2 i (by omega)).1, by rw [up_n _ (by omega), up_n _ (by omega)]; exact (hQ2 i (by omega)).2⟩) (by omega)
                    exact lp_88 _ 0 _ ⟨by decide, by omega⟩ fr_0 (fun i a b => by omega) (fun i _ => ⟨rfl, rfl⟩) (Nat.lt_succ_self _)
                  · skip
                    have hz1 := hZ.elim id (fun q => absurd q.1 h_72)
                    refine j_al0 hX dX12_back_75 rfl ?_
                    refine j_cVI0 (ci := 12) hX hG lk_X12_436 (ok_X12_goesBack moX (by rw [xF 5, v5]; exact hnm) (fun k a b => by rw [xF 5, v5] at b; rw [hz1.2.1 k a b, xF 1, k1]; exact itM_b hmo kn (by omega) hnm hrn t.toNat (fun s s0 s1 => hz1.2.2 s s0 (by omega)) k a b) (by rw [xF 39]; omega) (by rw [xF 40]; exact hsh.2)) (by decide) rfl (Nat.le_of_ble_eq_true rfl) (Nat.le_of_ble_eq_true rfl) (Nat.le_of_ble_eq_true rfl) rfl dX12_back_76 (fun x_76 V_76 h_76 => ?_)
                    obtain ⟨d_76, f_76⟩ := h_76
                    rw [xr, xF 5, v5] at d_76
                    have hrc : ∀ k, 0 ≤ k → k < V 55 5 → rowM V_22 (X1 59) k = itM V_22 (V 59) (t + 1).toNat k := fun k k0 k1 => by
                      rw [show (t + 1).toNat = t.toNat + 1 by omega]
                      show _ = rowM V_22 (itM V_22 (V 59) t.toNat) k
                      exact rowM_R v5 hnm hz1.2.1 k
                    have hZn : (x_76 = 1 ∧ (∀ k, 0 ≤ k → k < V 55 5 → V_76 59 k = itM V_22 (V 59) (t + 1).toNat k) ∧ (∀ s, 0 ≤ s → s < t + 1 → ∀ k, 0 ≤ k → k < V 55 5 → itM V_22 (V 59) (s + 1).toNat k ≠ -1)) ∨ (x_76 = 0 ∧ ∃ t, 0 ≤ t ∧ t < a ∧ (∀ s, 0 ≤ s → s < t → ∀ k, 0 ≤ k → k < V 55 5 → itM V_22 (V 59) (s + 1).toNat k ≠ -1) ∧ ∃ k, 0 ≤ k ∧ k < V 55 5 ∧ itM V_22 (V 59) (t + 1).toNat k = -1) := by
                      rcases d_76 with ⟨e1, e2, e3⟩ | ⟨e1, ⟨k, k0, k1, e2⟩, e3⟩
                      · exact Or.inl ⟨e1, fun k k0 k1 => (e3 k k0 k1).trans (hrc k k0 k1), lt_stepI hz1.2.2 (fun k k0 k1 => by rw [← hrc k k0 k1]; exact e2 k k0 k1)⟩
                      · exact Or.inr ⟨e1, t, ht.1, by omega, hz1.2.2, k, k0, k1, by rw [← hrc k k0 k1]; exact e2⟩
                    refine j_is2 hX dX12_back_79 rfl ?_
                    refine j_inc3 hX dX12_back_80 rfl (by omega) ?_
                    refine j_goto (tgt := 66) hX dX12_back_83 (by decide) ?_
                    exact ih_66 _ _ _ (bk_t ht h_68) (fr_t hx f_76) hZn (bk_d h_68 hm)
            exact lp_66 _ 1 0 _ ⟨by decide, by omega⟩ fr_0 (Or.inl ⟨rfl, fun k k0 k1 => (hA 59 k (by decide)).trans (v59 k), fun s s0 s1 => by omega⟩) (Nat.lt_succ_self _)
          · skip
            refine j_al0 hX dX12_back_44 rfl ?_
            refine j_getR (q := 86) hX hG fl_X12_107 rfl rfl (by decide) dX12_back_45 ?_
            refine j_il2 hX dX12_back_48 ?_
            refine j_al0 hX dX12_back_49 rfl ?_
            refine j_getR (q := 59) hX hG fl_X12_19 rfl rfl (by decide) dX12_back_50 ?_
            refine j_il2 hX dX12_back_53 ?_
            refine j_iald (n := 16) hX hG (by decide) (by omega) dX12_back_54 ?_
            refine j_iast (n := 16) hX hG (by decide) (by omega) dX12_back_55 ?_
            refine j_inc2 hX dX12_back_56 rfl (by omega) ?_
            refine j_goto (tgt := 36) hX dX12_back_59 (by decide) ?_
            exact ih_36 _ _ (by omega) (fr_u hA (by decide)) (lt_stepI (fun j a b => by rw [up_n _ (by omega)]; exact hD j a b) (by rw [up_s, hA 59 _ (by decide)]; exact v59 _)) (by omega)
      exact lp_36 _ 0 _ ⟨by decide, by omega⟩ fr_0 (fun j a b => by omega) (Nat.lt_succ_self _)
    · skip
      refine j_iconst hX dX12_back_32 ⟨by decide, by decide⟩ ?_
      exact j_retI hR dX12_back_33 (by
      first
      | exact Or.inr (Or.inl ⟨fun q => h_14.elim (fun r => absurd r.2.1 (by omega)) (fun r => by rw [if_pos q] at r; exact absurd r.1 (by decide)), rfl, by rw [(h_14.elim (fun r => absurd r.2.1 (by omega)) id).2.2, hU]⟩)
      | exact (by
          obtain ⟨c_26, -, w_26⟩ := h_26.elim (fun q => absurd q.2.1 (by omega)) id
          have c39 : V_22 55 39 = 0 := by
            rw [x_22e] at c_26
            by_cases q : 0 < V_22 55 39
            · rw [if_pos q] at c_26; exact absurd c_26 (by decide)
            · omega
          rw [w_26]
          exact Or.inr (Or.inr (Or.inl ⟨c9, rfl, by rw [up_n _ (by decide)]; exact c39, kn.u0 2, up_s ..⟩))))
set_option maxHeartbeats 4000000 in
theorem ok_X12_undo {V : VV} (hmo : MO V) (hpm : 0 ≤ V 55 21 ∧ V 55 21 ≤ 10) (hpn : 0 < V 55 21 → 1 ≤ V 67 (234 * (V 55 21 - 1) + 233) ∧ V 67 (234 * (V 55 21 - 1) + 233) ≤ 16) : Ok NA yX12_undo cX12_undo 3 (some .int) 1 22 [vA 55] V (pI (fun x9 V' => (0 < V 55 21 ∧ x9 = V 55 21 - 1 ∧ V' 55 0 = 0 ∧ V' 55 21 = V 55 21 - 1 ∧ V' 55 5 = V 67 (234 * (V 55 21 - 1) + 233) ∧ (∀ e, V' 58 e = if 0 ≤ e ∧ e < V 55 3 then V 67 (234 * (V 55 21 - 1) + e) else V 58 e) ∧ (∀ k, 0 ≤ k → k < V 67 (234 * (V 55 21 - 1) + 233) → V' 59 k = V 67 (234 * (V 55 21 - 1) + 216 + k)) ∧ (V' 55 38 = 1 → V 55 38 = 1 ∧ ∀ i9, 0 ≤ i9 → i9 < V 55 3 → V 58 i9 = V 67 (234 * (V 55 21 - 1) + i9)) ∧ (V' 55 45 = 1 → V 55 45 = 1 ∧ ∀ i9, 0 ≤ i9 → i9 < V 55 3 → V 58 i9 = V 67 (234 * (V 55 21 - 1) + i9)) ∧ (∀ b, b ≠ 0 → b ≠ 5 → b ≠ 21 → b ≠ 38 → b ≠ 45 → V' 55 b = V 55 b) ∧ ∀ a b, a ≠ 55 → a ≠ 58 → a ≠ 59 → V' a b = V a b) ∨ (¬ 0 < V 55 21 ∧ x9 = 0 ∧ V' = up (up V 55 0 0) 55 0 1))) := by
  refine Ok.intro (by decide +kernel) (Nat.le_of_ble_eq_true rfl) (fun X G hX hG hR hoa hoV => ?_)
  show J X G 0 [vA 55, vU, vU] [] V
  have hb9 := hmo.b
  refine j_al0 hX dX12_undo_0 rfl ?_
  refine j_iconst hX dX12_undo_1 ⟨by decide, by decide⟩ ?_
  refine j_putI hX hG fp_X12_126 rfl (by decide) dX12_undo_2 ?_
  obtain ⟨U, hU⟩ : ∃ U, U = up V 55 0 0 := ⟨_, rfl⟩
  rw [← hU]
  have u0 : U 55 0 = 0 := by rw [hU]; exact up_s ..
  have uF : ∀ b, b ≠ 0 → U 55 b = V 55 b := fun b hb => by rw [hU]; exact up_n _ (fun q => hb q.2)
  have uC : ∀ a b, a ≠ 55 → U a b = V a b := fun a b ha => by rw [hU]; exact up_n _ (fun q => ha q.1)
  have moU : MO U := hmo.t uF
  have e5 := uF 5 (by decide)
  have u21 := uF 21 (by decide)
  refine j_al0 hX dX12_undo_5 rfl ?_
  have jn_18 : ∀ (z : Int), (z = if 0 < V 55 21 then 1 else 0) → J X G 18 [vA 55, vU, vU] [vI z, vA 55] U := by
    intro z hz9
    refine j_iconst hX dX12_undo_18 ⟨by decide, by decide⟩ ?_
    refine j_cVI2 (ci := 12) hX hG lk_X12_168 (ok_X12_may u0 (by decide)) (by decide) rfl (Nat.le_of_ble_eq_true rfl) (Nat.le_of_ble_eq_true rfl) (Nat.le_of_ble_eq_true rfl) rfl dX12_undo_19 (fun x_19 V_19 h_19 => ?_)
    skip
    refine j_if_ne (tgt := 27) hX dX12_undo_22 (by decide) (fun h_22 => ?_) (fun h_22 => ?_)
    · skip
      obtain ⟨c_19, -, w_19⟩ := h_19.elim id (fun q => absurd q.2.1 (by omega))
      have w2_19 := w_19.symm
      subst w2_19
      have c9 : 0 < V 55 21 := Classical.byContradiction fun q => c_19 (by rw [hz9, if_neg q])
      have hn9 := hpn c9
      refine j_al0 hX dX12_undo_27 rfl ?_
      refine j_dup hX dX12_undo_28 rfl ?_
      refine j_getI hX hG fl_X12_155 (Or.inl rfl) (by decide) dX12_undo_29 ?_
      refine j_fx (x := V 55 21) u21 ?_
      refine j_iconst hX dX12_undo_32 ⟨by decide, by decide⟩ ?_
      refine j_isub hX dX12_undo_33 (by omega) ?_
      refine j_putI hX hG fp_X12_155 rfl (by decide) dX12_undo_34 ?_
      refine j_sipush hX dX12_undo_37 (by decide) ⟨by decide, by decide⟩ ?_
      refine j_al0 hX dX12_undo_40 rfl ?_
      refine j_getI hX hG fl_X12_155 (Or.inl rfl) (by decide) dX12_undo_41 ?_
      refine j_fx (x := V 55 21 - 1) (up_s ..) ?_
      refine j_imul hX dX12_undo_44 (by omega) ?_
      refine j_is1 hX dX12_undo_45 rfl ?_
      refine j_al0 hX dX12_undo_46 rfl ?_
      refine j_al0 hX dX12_undo_47 rfl ?_
      refine j_getR (q := 67) hX hG fl_X12_44 rfl rfl (by decide) dX12_undo_48 ?_
      refine j_il1 hX dX12_undo_51 ?_
      refine j_sipush hX dX12_undo_52 (by decide) ⟨by decide, by decide⟩ ?_
      refine j_iadd hX dX12_undo_55 (by omega) ?_
      refine j_iconst hX dX12_undo_56 ⟨by decide, by decide⟩ ?_
      refine j_isub hX dX12_undo_57 (by omega) ?_
      refine j_iald (n := 2340) hX hG (by decide) (by omega) dX12_undo_58 ?_
      refine j_fx (x := V 67 (234 * (V 55 21 - 1) + 233)) (by rw [up_n _ (by omega), show 234 * (V 55 21 - 1) + 234 - 1 = 234 * (V 55 21 - 1) + 233 by omega]; exact uC 67 _ (by decide)) ?_
      refine j_putI hX hG fp_X12_142 rfl (by decide) dX12_undo_59 ?_
      refine j_iconst hX dX12_undo_62 ⟨by decide, by decide⟩ ?_
      refine j_is2 hX dX12_undo_63 rfl ?_
      have lp_64 : ∀ (f9 : Nat) (e : Int) (W : VV), (0 ≤ e ∧ e ≤ V 55 3) → ((∀ b, b ≠ 0 → b ≠ 5 → b ≠ 21 → b ≠ 38 → b ≠ 45 → W 55 b = V 55 b) ∧ ∀ a b, a ≠ 55 → a ≠ 58 → W a b = V a b) → (W 55 0 = 0 ∧ W 55 21 = V 55 21 - 1 ∧ W 55 5 = V 67 (234 * (V 55 21 - 1) + 233)) → (∀ j, W 58 j = if 0 ≤ j ∧ j < e then V 67 (234 * (V 55 21 - 1) + j) else V 58 j) → ((W 55 38 = 1 → V 55 38 = 1 ∧ ∀ i9, 0 ≤ i9 → i9 < e → V 58 i9 = V 67 (234 * (V 55 21 - 1) + i9))) → ((W 55 45 = 1 → V 55 45 = 1 ∧ ∀ i9, 0 ≤ i9 → i9 < e → V 58 i9 = V 67 (234 * (V 55 21 - 1) + i9))) → ((V 55 3 - e).toNat) < f9 → J X G 64 [vA 55, vI (234 * (V 55 21 - 1)), vI e] [] W := by
        intro f9
        induction f9 with
        | zero => intro e W _ _ _ _ _ _ hm; exact absurd hm (Nat.not_lt_zero _)
        | succ f9 ih_64 =>
          intro e W he hwF hw0 hw58 hw38 hw45 hm
          refine j_il2 hX dX12_undo_64 ?_
          have f3_W : W 55 3 = V 55 3 := hwF.1 3 (by decide) (by decide) (by decide) (by decide) (by decide)
          refine j_al0 hX dX12_undo_65 rfl ?_
          refine j_getI hX hG fl_X12_148 (Or.inl rfl) (by decide) dX12_undo_66 ?_
          refine j_fx (x := V 55 3) (by first | assumption | rfl) ?_
          refine j_icmp_ge (tgt := 158) hX dX12_undo_69 (by decide) (fun h_69 => ?_) (fun h_69 => ?_)
          · skip
            refine j_iconst hX dX12_undo_158 ⟨by decide, by decide⟩ ?_
            refine j_is2 hX dX12_undo_159 rfl ?_
            have lp_160 : ∀ (f9 : Nat) (k : Int) (Q : VV), (0 ≤ k ∧ k ≤ V 67 (234 * (V 55 21 - 1) + 233)) → (fr [59] W Q) → (∀ i, 0 ≤ i → i < k → Q 59 i = V 67 (234 * (V 55 21 - 1) + 216 + i)) → ((V 67 (234 * (V 55 21 - 1) + 233) - k).toNat) < f9 → J X G 160 [vA 55, vI (234 * (V 55 21 - 1)), vI k] [] Q := by
              intro f9
              induction f9 with
              | zero => intro k Q _ _ _ hm; exact absurd hm (Nat.not_lt_zero _)
              | succ f9 ih_160 =>
                intro k Q hk hq hC hm
                refine j_il2 hX dX12_undo_160 ?_
                refine j_al0 hX dX12_undo_161 rfl ?_
                refine j_getI hX hG fl_X12_142 (Or.inl rfl) (by decide) dX12_undo_162 ?_
                refine j_eqS (st' := [vI (V 67 (234 * (V 55 21 - 1) + 233)), vI k]) (by rw [hq 55 5 (by decide), hw0.2.2]) ?_
                refine j_icmp_ge (tgt := 192) hX dX12_undo_165 (by decide) (fun h_165 => ?_) (fun h_165 => ?_)
                · skip
                  refine j_al0 hX dX12_undo_192 rfl ?_
                  refine j_getI hX hG fl_X12_155 (Or.inl rfl) (by decide) dX12_undo_193 ?_
                  exact j_retI hR dX12_undo_196 (by
      have ee : e = V 55 3 := by omega
      rw [ee] at hw58 hw38 hw45
      refine Or.inl ⟨c9, (hq 55 21 (by decide)).trans hw0.2.1, (hq 55 0 (by decide)).trans hw0.1, (hq 55 21 (by decide)).trans hw0.2.1, (hq 55 5 (by decide)).trans hw0.2.2, fun j => (hq 58 j (by decide)).trans (hw58 j), fun i a b => hC i a (by omega), fun q => hw38 ((hq 55 38 (by decide)).symm.trans q), fun q => hw45 ((hq 55 45 (by decide)).symm.trans q), fun b b0 b1 b2 b3 b4 => (hq 55 b (by decide)).trans (hwF.1 b b0 b1 b2 b3 b4), fun a b a0 a1 a2 => (hq a b (by simpa using a2)).trans (hwF.2 a b a0 a1)⟩)
                · skip
                  refine j_al0 hX dX12_undo_168 rfl ?_
                  refine j_getR (q := 59) hX hG fl_X12_19 rfl rfl (by decide) dX12_undo_169 ?_
                  refine j_il2 hX dX12_undo_172 ?_
                  refine j_al0 hX dX12_undo_173 rfl ?_
                  refine j_getR (q := 67) hX hG fl_X12_44 rfl rfl (by decide) dX12_undo_174 ?_
                  refine j_il1 hX dX12_undo_177 ?_
                  refine j_sipush hX dX12_undo_178 (by decide) ⟨by decide, by decide⟩ ?_
                  refine j_iadd hX dX12_undo_181 (by omega) ?_
                  refine j_il2 hX dX12_undo_182 ?_
                  refine j_iadd hX dX12_undo_183 (by omega) ?_
                  refine j_iald (n := 2340) hX hG (by decide) (by omega) dX12_undo_184 ?_
                  refine j_iast (n := 16) hX hG (by decide) (by omega) dX12_undo_185 ?_
                  refine j_inc2 hX dX12_undo_186 rfl (by omega) ?_
                  refine j_goto (tgt := 160) hX dX12_undo_189 (by decide) ?_
                  exact ih_160 _ _ (by omega) (fr_u hq (by decide)) (lt_stepI (fun i a b => by rw [up_n _ (by omega)]; exact hC i a b) (by rw [up_s]; exact (hq 67 _ (by decide)).trans (hwF.2 67 _ (by decide) (by decide)))) (by omega)
            exact lp_160 _ 0 _ ⟨by decide, by omega⟩ fr_0 (fun i a b => by omega) (Nat.lt_succ_self _)
          · skip
            refine j_okV (fun okW => ?_)
            have hel : e < V 55 3 := by omega
            have hvW : ∀ c, cty 55 c = 3 → (W 55 c = 0 ∨ W 55 c = 1) := fun c hc => (okW 55 c).2.2 hc
            refine j_al0 hX dX12_undo_72 rfl ?_
            have jn_102 : ∀ (z : Int), (z = 0 ∨ z = 1 ∧ W 55 38 = 1 ∧ V 58 e = V 67 (234 * (V 55 21 - 1) + e)) → J X G 102 [vA 55, vI (234 * (V 55 21 - 1)), vI e] [vI z, vA 55] W := by
              intro z hz38
              refine j_putZ hX hG fp_X12_158 rfl (by omega) (by decide) dX12_undo_102 ?_
              refine j_al0 hX dX12_undo_105 rfl ?_
              have jn_135 : ∀ (z5 : Int), (z5 = 0 ∨ z5 = 1 ∧ W 55 45 = 1 ∧ V 58 e = V 67 (234 * (V 55 21 - 1) + e)) → J X G 135 [vA 55, vI (234 * (V 55 21 - 1)), vI e] [vI z5, vA 55] (up W 55 38 z) := by
                intro z5 hz45
                refine j_putZ hX hG fp_X12_162 rfl (by omega) (by decide) dX12_undo_135 ?_
                refine j_al0 hX dX12_undo_138 rfl ?_
                refine j_getR (q := 58) hX hG fl_X12_16 rfl rfl (by decide) dX12_undo_139 ?_
                refine j_il2 hX dX12_undo_142 ?_
                refine j_al0 hX dX12_undo_143 rfl ?_
                refine j_getR (q := 67) hX hG fl_X12_44 rfl rfl (by decide) dX12_undo_144 ?_
                refine j_il1 hX dX12_undo_147 ?_
                refine j_il2 hX dX12_undo_148 ?_
                refine j_iadd hX dX12_undo_149 (by omega) ?_
                refine j_iald (n := 2340) hX hG (by decide) (by omega) dX12_undo_150 ?_
                refine j_eqS (st' := [vI (V 67 (234 * (V 55 21 - 1) + e)), vI e, vA 58]) (by rw [up_n _ (by omega), up_n _ (by omega), hwF.2 67 _ (by decide) (by decide)]) ?_
                refine j_iast (n := 216) hX hG (by decide) (by omega) dX12_undo_151 ?_
                refine j_inc2 hX dX12_undo_152 rfl (by omega) ?_
                refine j_goto (tgt := 64) hX dX12_undo_155 (by decide) ?_
                exact ih_64 _ _ (by omega) ⟨fun b b0 b1 b2 b3 b4 => by rw [up_n _ (by omega), up_n _ (by omega), up_n _ (by omega)]; exact hwF.1 b b0 b1 b2 b3 b4, fun a b a1 a2 => by rw [up_n _ (by omega), up_n _ (by omega), up_n _ (by omega)]; exact hwF.2 a b a1 a2⟩ ⟨by rw [up_n _ (by omega), up_n _ (by omega), up_n _ (by omega)]; exact hw0.1, by rw [up_n _ (by omega), up_n _ (by omega), up_n _ (by omega)]; exact hw0.2.1, by rw [up_n _ (by omega), up_n _ (by omega), up_n _ (by omega)]; exact hw0.2.2⟩ (un_58 he.1 (fun j => by rw [up_n _ (by omega), up_n _ (by omega)]; exact hw58 j)) (fun q => un_fl hw38 hz38 (by rw [up_n _ (by omega), up_n _ (by omega), up_s] at q; exact q)) (fun q => un_fl hw45 hz45 (by rw [up_n _ (by omega), up_s] at q; exact q)) (by omega)
              refine j_al0 hX dX12_undo_106 rfl ?_
              refine j_getI hX hG fl_X12_162 (Or.inr rfl) (by decide) dX12_undo_107 ?_
              refine j_if_eq (tgt := 134) hX dX12_undo_110 (by decide) (fun h_110 => ?_) (fun h_110 => ?_)
              · skip
                refine j_iconst hX dX12_undo_134 ⟨by decide, by decide⟩ ?_
                exact jn_135 _ (by first | exact Or.inl rfl | exact Or.inr ⟨rfl, one_ofg (hvW 45 (by decide)) (by rw [← up_n (x := z) (k := 55) (j := 38) W (by decide)]; exact h_110), h_127⟩)
              · skip
                refine j_al0 hX dX12_undo_113 rfl ?_
                refine j_getR (q := 58) hX hG fl_X12_16 rfl rfl (by decide) dX12_undo_114 ?_
                refine j_il2 hX dX12_undo_117 ?_
                refine j_iald (n := 216) hX hG (by decide) (by omega) dX12_undo_118 ?_
                refine j_al0 hX dX12_undo_119 rfl ?_
                refine j_getR (q := 67) hX hG fl_X12_44 rfl rfl (by decide) dX12_undo_120 ?_
                refine j_il1 hX dX12_undo_123 ?_
                refine j_il2 hX dX12_undo_124 ?_
                refine j_iadd hX dX12_undo_125 (by omega) ?_
                refine j_iald (n := 2340) hX hG (by decide) (by omega) dX12_undo_126 ?_
                refine j_eqS (st' := [vI (V 67 (234 * (V 55 21 - 1) + e)), vI (V 58 e), vA 55]) (by rw [up_n _ (by omega), up_n _ (by omega), hwF.2 67 _ (by decide) (by decide), hw58 e, if_neg (by omega)]) ?_
                refine j_icmp_ne (tgt := 134) hX dX12_undo_127 (by decide) (fun h_127 => ?_) (fun h_127 => ?_)
                · skip
                  refine j_iconst hX dX12_undo_134 ⟨by decide, by decide⟩ ?_
                  exact jn_135 _ (by first | exact Or.inl rfl | exact Or.inr ⟨rfl, one_ofg (hvW 45 (by decide)) (by rw [← up_n (x := z) (k := 55) (j := 38) W (by decide)]; exact h_110), h_127⟩)
                · skip
                  refine j_iconst hX dX12_undo_130 ⟨by decide, by decide⟩ ?_
                  refine j_goto (tgt := 135) hX dX12_undo_131 (by decide) ?_
                  exact jn_135 _ (by first | exact Or.inl rfl | exact Or.inr ⟨rfl, one_ofg (hvW 45 (by decide)) (by rw [← up_n (x := z) (k := 55) (j := 38) W (by decide)]; exact h_110), h_127⟩)
            refine j_al0 hX dX12_undo_73 rfl ?_
            refine j_getI hX hG fl_X12_158 (Or.inr rfl) (by decide) dX12_undo_74 ?_
            refine j_if_eq (tgt := 101) hX dX12_undo_77 (by decide) (fun h_77 => ?_) (fun h_77 => ?_)
            · skip
              refine j_iconst hX dX12_undo_101 ⟨by decide, by decide⟩ ?_
              exact jn_102 _ (by first | exact Or.inl rfl | exact Or.inr ⟨rfl, one_ofg (hvW 38 (by decide)) h_77, h_94⟩)
            · skip
              refine j_al0 hX dX12_undo_80 rfl ?_
              refine j_getR (q := 58) hX hG fl_X12_16 rfl rfl (by decide) dX12_undo_81 ?_
              refine j_il2 hX dX12_undo_84 ?_
              refine j_iald (n := 216) hX hG (by decide) (by omega) dX12_undo_85 ?_
              refine j_al0 hX dX12_undo_86 rfl ?_
              refine j_getR (q := 67) hX hG fl_X12_44 rfl rfl (by decide) dX12_undo_87 ?_
              refine j_il1 hX dX12_undo_90 ?_
              refine j_il2 hX dX12_undo_91 ?_
              refine j_iadd hX dX12_undo_92 (by omega) ?_
              refine j_iald (n := 2340) hX hG (by decide) (by omega) dX12_undo_93 ?_
              refine j_eqS (st' := [vI (V 67 (234 * (V 55 21 - 1) + e)), vI (V 58 e), vA 55]) (by rw [hwF.2 67 _ (by decide) (by decide), hw58 e, if_neg (by omega)]) ?_
              refine j_icmp_ne (tgt := 101) hX dX12_undo_94 (by decide) (fun h_94 => ?_) (fun h_94 => ?_)
              · skip
                refine j_iconst hX dX12_undo_101 ⟨by decide, by decide⟩ ?_
                exact jn_102 _ (by first | exact Or.inl rfl | exact Or.inr ⟨rfl, one_ofg (hvW 38 (by decide)) h_77, h_94⟩)
              · skip
                refine j_iconst hX dX12_undo_97 ⟨by decide, by decide⟩ ?_
                refine j_goto (tgt := 102) hX dX12_undo_98 (by decide) ?_
                exact jn_102 _ (by first | exact Or.inl rfl | exact Or.inr ⟨rfl, one_ofg (hvW 38 (by decide)) h_77, h_94⟩)
      exact lp_64 _ 0 _ ⟨by decide, by omega⟩ ⟨fun b b0 b1 b2 b3 b4 => by rw [up_n _ (by omega), up_n _ (by omega)]; exact uF b b0, fun a b a1 a2 => by rw [up_n _ (by omega), up_n _ (by omega)]; exact uC a b a1⟩ ⟨by rw [up_n _ (by decide), up_n _ (by decide)]; exact u0, by rw [up_n _ (by decide), up_s], up_s ..⟩ (fun j => by rw [if_neg (by omega), up_n _ (by omega), up_n _ (by omega)]; exact uC 58 j (by decide)) (fun q => ⟨by rw [up_n _ (by decide), up_n _ (by decide), uF 38 (by decide)] at q; exact q, fun e a b => by omega⟩) (fun q => ⟨by rw [up_n _ (by decide), up_n _ (by decide), uF 45 (by decide)] at q; exact q, fun e a b => by omega⟩) (Nat.lt_succ_self _)
    · skip
      obtain ⟨c_19, -, w_19⟩ := h_19.elim (fun q => absurd q.2.1 (by omega)) id
      have c9 : ¬ 0 < V 55 21 := fun q => by rw [hz9, if_pos q] at c_19; exact absurd c_19 (by decide)
      refine j_iconst hX dX12_undo_25 ⟨by decide, by decide⟩ ?_
      exact j_retI hR dX12_undo_26 (Or.inr ⟨c9, rfl, by rw [w_19, hU]⟩)
  refine j_al0 hX dX12_undo_6 rfl ?_
  refine j_getI hX hG fl_X12_155 (Or.inl rfl) (by decide) dX12_undo_7 ?_
  refine j_if_le (tgt := 17) hX dX12_undo_10 (by decide) (fun h_10 => ?_) (fun h_10 => ?_)
  · skip
    refine j_iconst hX dX12_undo_17 ⟨by decide, by decide⟩ ?_
    exact jn_18 _ (by first | exact (if_pos (by omega)).symm | exact (if_neg (by omega)).symm)
  · skip
    refine j_iconst hX dX12_undo_13 ⟨by decide, by decide⟩ ?_
    refine j_goto (tgt := 18) hX dX12_undo_14 (by decide) ?_
    exact jn_18 _ (by first | exact (if_pos (by omega)).symm | exact (if_neg (by omega)).symm)
