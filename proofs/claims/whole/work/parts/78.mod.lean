/-- the frame of the search for an inverse rule -/
def fI (V W : VV) : Prop := (∀ b, b ≠ 0 → b ≠ 38 → b ≠ 39 → b ≠ 40 → W 55 b = V 55 b) ∧ ∀ a b, a ≠ 55 → a ≠ 73 → a ≠ 74 → W a b = V a b
theorem fI_0 {V : VV} : fI V V := ⟨fun _ _ _ _ _ => rfl, fun _ _ _ _ _ => rfl⟩
theorem fI_u {V W : VV} {j x : Int} (h : fI V W) (hj : j = 0 ∨ j = 38 ∨ j = 39 ∨ j = 40) : fI V (up W 55 j x) := ⟨fun b b0 b1 b2 b3 => by rw [up_n _ (by omega)]; exact h.1 b b0 b1 b2 b3, fun a b a1 a2 a3 => by rw [up_n _ (fun q => a1 q.1)]; exact h.2 a b a1 a2 a3⟩
theorem fI_f {V W Z : VV} {l : List Int} (h : fI V W) (hf : fr l W Z) (hl : ∀ a, a ∈ l → a = 73 ∨ a = 74) : fI V Z := ⟨fun b b0 b1 b2 b3 => (hf 55 b (fun q => by have := hl 55 q; omega)).trans (h.1 b b0 b1 b2 b3), fun a b a1 a2 a3 => (hf a b (fun q => by have := hl a q; omega)).trans (h.2 a b a1 a2 a3)⟩
theorem fI_t {V W Z : VV} (h : fI V W) (h' : fI W Z) : fI V Z := ⟨fun b b0 b1 b2 b3 => (h'.1 b b0 b1 b2 b3).trans (h.1 b b0 b1 b2 b3), fun a b a1 a2 a3 => (h'.2 a b a1 a2 a3).trans (h.2 a b a1 a2 a3)⟩
/-- the model's inverse rule -/
def MIV (W : VV) (T : Int → Int) (g n w : Int) : Prop := IVS T g n w (W 55 39) (W 55 40) ∧ (W 55 39 ≠ 0 → (∀ x, 0 ≤ x → x < g ^ (W 55 39 + w - 1).toNat → W 74 (imgF T g n x (W 55 39).toNat) = dg g x (W 55 39 + w - 2 - W 55 40).toNat) ∧ ∀ c, 0 ≤ c → c < g ^ (W 55 39).toNat → W 74 c = -1 ∨ ∃ x, 0 ≤ x ∧ x < g ^ (W 55 39 + w - 1).toNat ∧ imgF T g n x (W 55 39).toNat = c)
theorem one_of {V : VV} (h : okV V) (h1 : ¬ V 55 38 = 0) : V 55 38 = 1 := ((h 55 38).2.2 (by decide)).resolve_left h1
theorem nt_big {T : Int → Int} {g n w v u : Int} (hg : 2 ≤ g ∧ g ≤ 6) (hv : 1 ≤ v) (hw : 2 ≤ w) (hb : 50000 < g ^ (v + w - 1).toNat) (hu : v ≤ u) : NT T g n w u := fun q => by
  have e : (u + w - 1).toNat = (v + w - 1).toNat + (u - v).toNat := by omega
  rw [e, Int.pow_add] at q
  have h1 : 1 ≤ g ^ (u - v).toNat := Int.pow_pos (by omega)
  have h2 := Int.mul_le_mul_of_nonneg_left h1 (show 0 ≤ g ^ (v + w - 1).toNat by omega)
  omega
theorem dc_neg (g : Int) : ∀ (k : Nat) {r : Int}, r < 0 → decC g k r = -1
  | 0, r, h => if_neg (by omega)
  | k + 1, r, h => by
    by_cases z : r.tmod 10 < 0 ∨ g ≤ r.tmod 10
    · exact decC_n z
    · have t := Int.tmod_add_mul_tdiv r 10
      rw [decC_S (by omega), dc_neg g k (by omega)]; rfl
theorem dc_big (g : Int) : ∀ (k : Nat) {r : Int}, 10 ^ k ≤ r → decC g k r = -1
  | 0, r, h => if_neg (by have : (1 : Int) ≤ r := h; omega)
  | k + 1, r, h => by
    have h0 : (0 : Int) < 10 ^ k := Int.pow_pos (by decide)
    rw [Int.pow_succ] at h
    by_cases z : r.tmod 10 < 0 ∨ g ≤ r.tmod 10
    · exact decC_n z
    · have e := Int.tdiv_eq_ediv_of_nonneg (a := r) (b := 10) (by omega)
      rw [decC_S (by omega), dc_big g k (by omega)]; rfl
theorem dc_0 {g v d : Int} (h0 : 0 ≤ d) (h : d < 10 ^ v.toNat) (hv : 1 ≤ v := by omega) : decC g (v - 1 - (v - 1)).toNat (d / 10 ^ (v - 1 + 1).toNat) = 0 ∧ 0 ≤ (0 : Int) ∧ 0 < g ^ (v - 1 - (v - 1)).toNat := by
  rw [show (v - 1 - (v - 1)).toNat = 0 by omega, show v - 1 + 1 = v by omega, Int.ediv_eq_zero_of_lt h0 h]
  exact ⟨rfl, by decide, by rw [Int.pow_zero]; decide⟩
theorem dc_q {d k : Int} (hk : 0 ≤ k) : d / 10 ^ k.toNat / 10 = d / 10 ^ (k + 1).toNat := by
  rw [show (k + 1).toNat = k.toNat + 1 by omega, Int.pow_succ, Int.ediv_ediv_of_nonneg (Int.le_of_lt (Int.pow_pos (by decide)))]
theorem dc_s {g v d k m : Int} (hg : 2 ≤ g ∧ g ≤ 6) (hk : 0 ≤ k ∧ k ≤ v - 1) (hm : decC g (v - 1 - k).toNat (d / 10 ^ (k + 1).toNat) = m ∧ 0 ≤ m ∧ m < g ^ (v - 1 - k).toNat) (hd : 0 ≤ d) (ht : 0 ≤ d / 10 ^ k.toNat % 10 ∧ d / 10 ^ k.toNat % 10 < g) : decC g (v - 1 - (k + -1)).toNat (d / 10 ^ (k + -1 + 1).toNat) = g * m + d / 10 ^ k.toNat % 10 ∧ 0 ≤ g * m + d / 10 ^ k.toNat % 10 ∧ g * m + d / 10 ^ k.toNat % 10 < g ^ (v - 1 - (k + -1)).toNat := by
  refine ⟨?_, iw_b hg hm.2 hk ht⟩
  have q0 : 0 ≤ d / 10 ^ k.toNat := Int.ediv_nonneg hd (Int.le_of_lt (Int.pow_pos (by decide)))
  have e1 := Int.tmod_eq_emod_of_nonneg (a := d / 10 ^ k.toNat) (b := 10) q0
  have e2 := Int.tdiv_eq_ediv_of_nonneg (a := d / 10 ^ k.toNat) (b := 10) q0
  rw [show (v - 1 - (k + -1)).toNat = (v - 1 - k).toNat + 1 by omega, show k + -1 + 1 = k by omega, decC_S (by rw [e1]; exact ht), e1, e2, dc_q hk.1, hm.1, if_neg (by omega)]
  omega
theorem dc_up {g : Int} {m : Nat} : ∀ (j : Nat) {r : Int}, 0 ≤ r → decC g m (r / 10 ^ j) = -1 → decC g (m + j) r = -1
  | 0, r, h0, h => by rw [Int.pow_zero, Int.ediv_one] at h; exact h
  | j + 1, r, h0, h => by
    by_cases z : r.tmod 10 < 0 ∨ g ≤ r.tmod 10
    · exact decC_n z
    · have e := Int.tdiv_eq_ediv_of_nonneg (a := r) (b := 10) h0
      show decC g (m + j + 1) r = -1
      rw [decC_S (by omega), dc_up j (by omega) (by
        rw [e]
        rw [Int.pow_succ, Int.mul_comm, ← Int.ediv_ediv_of_nonneg (by decide)] at h
        exact h)]; rfl
theorem dc_bad {g v d k : Int} (hk : 0 ≤ k) (hk2 : k ≤ v - 1) (hd : 0 ≤ d) (hv : 1 ≤ v) (ht : g ≤ d / 10 ^ k.toNat % 10) : decC g v.toNat d = -1 := by
  have q0 : 0 ≤ d / 10 ^ k.toNat := Int.ediv_nonneg hd (Int.le_of_lt (Int.pow_pos (by decide)))
  have e1 := Int.tmod_eq_emod_of_nonneg (a := d / 10 ^ k.toNat) (b := 10) q0
  have := dc_up (g := g) (m := (v - 1 - k).toNat + 1) k.toNat hd (decC_n (Or.inr (by rw [e1]; exact ht)))
  rw [show (v - 1 - k).toNat + 1 + k.toNat = v.toNat by omega] at this
  exact this
theorem dc_end {g v d k m : Int} (hm : decC g (v - 1 - k).toNat (d / 10 ^ (k + 1).toNat) = m) (hk : k = -1) : decC g v.toNat d = m := by
  rw [hk, show (-1 + 1 : Int).toNat = 0 by decide, Int.pow_zero, Int.ediv_one, show (v - 1 - -1).toNat = v.toNat by omega] at hm
  exact hm
set_option maxHeartbeats 4000000 in
theorem ok_X12_isInverted {V : VV} (hmo : MO V) (htm : TRM V) (hik : V 55 38 ≠ 0 → MIV V (V 58) (V 55 1) (V 55 3) (V 55 2)) : Ok NA yX12_isInverted cX12_isInverted 3 (some .boolean) 2 48 [vA 55] V (pI (fun x9 V' => x9 = (if 0 < V' 55 39 then 1 else 0) ∧ V' 55 38 = 1 ∧ MIV V' (V 58) (V 55 1) (V 55 3) (V 55 2) ∧ fI V V' ∧ V' 55 0 = V 55 0)) := by
  refine Ok.intro (by decide +kernel) (Nat.le_of_ble_eq_true rfl) (fun X G hX hG hR hoa hoV => ?_)
  show J X G 0 [vA 55, vU, vU] [] V
  have hb9 := hmo.b
  refine j_al0 hX dX12_isInverted_0 rfl ?_
  refine j_getI hX hG fl_X12_158 (Or.inr rfl) (by decide) dX12_isInverted_1 ?_
  refine j_if_eq (tgt := 20) hX dX12_isInverted_4 (by decide) (fun h_4 => ?_) (fun h_4 => ?_)
  · skip
    refine j_al0 hX dX12_isInverted_20 rfl ?_
    refine j_iconst hX dX12_isInverted_21 ⟨by decide, by decide⟩ ?_
    refine j_putZ hX hG fp_X12_158 rfl (by omega) (by decide) dX12_isInverted_22 ?_
    refine j_al0 hX dX12_isInverted_25 rfl ?_
    refine j_iconst hX dX12_isInverted_26 ⟨by decide, by decide⟩ ?_
    refine j_putI hX hG fp_X12_352 rfl (by decide) dX12_isInverted_27 ?_
    refine j_iconst hX dX12_isInverted_30 ⟨by decide, by decide⟩ ?_
    refine j_is1 hX dX12_isInverted_31 rfl ?_
    have lp_32 : ∀ (f9 : Nat) (v : Int) (W : VV), (1 ≤ v ∧ v ≤ 6) → (fI V W) → (W 55 38 = 1 ∧ W 55 39 = 0) → (W 55 0 = V 55 0) → (∀ u, 1 ≤ u → u < v → NT (V 58) (V 55 1) (V 55 3) (V 55 2) u) → ((6 - v).toNat) < f9 → J X G 32 [vA 55, vI v, vU] [] W := by
      intro f9
      induction f9 with
      | zero => intro v W _ _ _ _ _ hm; exact absurd hm (Nat.not_lt_zero _)
      | succ f9 ih_32 =>
        intro v W hv hf hw9 h0W hN hm
        refine j_il1 hX dX12_isInverted_32 ?_
        refine j_iconst hX dX12_isInverted_33 ⟨by decide, by decide⟩ ?_
        refine j_icmp_gt (tgt := 112) hX dX12_isInverted_34 (by decide) (fun h_34 => ?_) (fun h_34 => ?_)
        · skip
          refine j_iconst hX dX12_isInverted_112 ⟨by decide, by decide⟩ ?_
          exact j_retZ hR dX12_isInverted_113 (by omega) ⟨by rw [if_neg (by omega)], hw9.1, ⟨Or.inl ⟨hw9.2, fun u u0 u1 => by first | exact hN u u0 (by omega) | exact (if q : u < v then hN u u0 q else nt_big hb9.1 hv.1 (by omega) (by omega) (by omega))⟩, fun q => absurd hw9.2 q⟩, hf, h0W⟩
        · skip
          have f1_W : W 55 1 = V 55 1 := hf.1 1 (by decide) (by decide) (by decide) (by decide)
          have f2_W : W 55 2 = V 55 2 := hf.1 2 (by decide) (by decide) (by decide) (by decide)
          have f3_W : W 55 3 = V 55 3 := hf.1 3 (by decide) (by decide) (by decide) (by decide)
          have f4_W : W 55 4 = V 55 4 := hf.1 4 (by decide) (by decide) (by decide) (by decide)
          have f58_W : W 58 = V 58 := funext fun b => hf.2 58 b (by decide) (by decide) (by decide)
          have mo_W : MO W := by unfold MO; rw [f1_W, f2_W, f3_W, f4_W]; exact hmo
          have tm_W : TRM W := by unfold TRM; rw [f1_W, f3_W, f58_W]; exact htm
          refine j_al0 hX dX12_isInverted_37 rfl ?_
          refine j_getI hX hG fl_X12_136 (Or.inl rfl) (by decide) dX12_isInverted_38 ?_
          refine j_fx (x := V 55 1) (by first | assumption | rfl) ?_
          refine j_il1 hX dX12_isInverted_41 ?_
          refine j_al0 hX dX12_isInverted_42 rfl ?_
          refine j_getI hX hG fl_X12_139 (Or.inl rfl) (by decide) dX12_isInverted_43 ?_
          refine j_fx (x := V 55 2) (by first | assumption | rfl) ?_
          refine j_iadd hX dX12_isInverted_46 (by omega) ?_
          refine j_iconst hX dX12_isInverted_47 ⟨by decide, by decide⟩ ?_
          refine j_isub hX dX12_isInverted_48 (by omega) ?_
          refine j_pSI2 hX hG lk_X12_349 (ok_X12_power (by omega) (by omega)) (Nat.le_of_ble_eq_true rfl) (Nat.le_of_ble_eq_true rfl) (Nat.le_of_ble_eq_true rfl) rfl dX12_isInverted_49 ?_
          refine j_ldc (x := 50000) hX dX12_isInverted_52 lc_X12_66 ⟨by decide, by decide⟩ ?_
          refine j_icmp_gt (tgt := 112) hX dX12_isInverted_54 (by decide) (fun h_54 => ?_) (fun h_54 => ?_)
          · skip
            refine j_iconst hX dX12_isInverted_112 ⟨by decide, by decide⟩ ?_
            exact j_retZ hR dX12_isInverted_113 (by omega) ⟨by rw [if_neg (by omega)], hw9.1, ⟨Or.inl ⟨hw9.2, fun u u0 u1 => by first | exact hN u u0 (by omega) | exact (if q : u < v then hN u u0 q else nt_big hb9.1 hv.1 (by omega) (by omega) (by omega))⟩, fun q => absurd hw9.2 q⟩, hf, h0W⟩
          · skip
            have hpw : V 55 1 ^ (v + V 55 2 - 1).toNat ≤ 50000 := by omega
            refine j_al0 hX dX12_isInverted_57 rfl ?_
            refine j_il1 hX dX12_isInverted_58 ?_
            refine j_cVV1 (ci := 12) hX hG lk_X12_355 (ok_X12_laysGiven mo_W tm_W (by omega) (by rw [f1_W, f2_W]; exact hpw)) (by decide) rfl (Nat.le_of_ble_eq_true rfl) (Nat.le_of_ble_eq_true rfl) (Nat.le_of_ble_eq_true rfl) rfl dX12_isInverted_59 (fun V_59 h_59 => ?_)
            obtain ⟨g_59, f_59⟩ := h_59
            rw [f58_W, f1_W, f2_W, f3_W] at g_59
            refine j_iconst hX dX12_isInverted_62 ⟨by decide, by decide⟩ ?_
            refine j_is2 hX dX12_isInverted_63 rfl ?_
            have lp_64 : ∀ (f9 : Nat) (s : Int) (Z : VV), (0 ≤ s ∧ s ≤ v + V 55 2 - 1) → (fI V Z) → (Z 55 38 = 1 ∧ Z 55 39 = 0) → (Z 55 0 = V 55 0) → (∀ u, 0 ≤ u → u < V 55 1 ^ (v + V 55 2 - 1).toNat → Z 73 u = imgF (V 58) (V 55 1) (V 55 3) u v.toNat) → (∀ p, 0 ≤ p → p < s → ¬ TEL (V 58) (V 55 1) (V 55 3) v.toNat (v + V 55 2 - 1).toNat p) → ((v + V 55 2 - 1 - s).toNat) < f9 → J X G 64 [vA 55, vI v, vI s] [] Z := by
              intro f9
              induction f9 with
              | zero => intro s Z _ _ _ _ _ _ hm; exact absurd hm (Nat.not_lt_zero _)
              | succ f9 ih_64 =>
                intro s Z hs hf2 hw2 h0Z hGv hT hm
                refine j_il2 hX dX12_isInverted_64 ?_
                have f1_Z : Z 55 1 = V 55 1 := hf2.1 1 (by decide) (by decide) (by decide) (by decide)
                have f2_Z : Z 55 2 = V 55 2 := hf2.1 2 (by decide) (by decide) (by decide) (by decide)
                have f3_Z : Z 55 3 = V 55 3 := hf2.1 3 (by decide) (by decide) (by decide) (by decide)
                have f4_Z : Z 55 4 = V 55 4 := hf2.1 4 (by decide) (by decide) (by decide) (by decide)
                have f58_Z : Z 58 = V 58 := funext fun b => hf2.2 58 b (by decide) (by decide) (by decide)
                have mo_Z : MO Z := by unfold MO; rw [f1_Z, f2_Z, f3_Z, f4_Z]; exact hmo
                have tm_Z : TRM Z := by unfold TRM; rw [f1_Z, f3_Z, f58_Z]; exact htm
                refine j_il1 hX dX12_isInverted_65 ?_
                refine j_al0 hX dX12_isInverted_66 rfl ?_
                refine j_getI hX hG fl_X12_139 (Or.inl rfl) (by decide) dX12_isInverted_67 ?_
                refine j_fx (x := V 55 2) (by first | assumption | rfl) ?_
                refine j_iadd hX dX12_isInverted_70 (by omega) ?_
                refine j_iconst hX dX12_isInverted_71 ⟨by decide, by decide⟩ ?_
                refine j_isub hX dX12_isInverted_72 (by omega) ?_
                refine j_icmp_gt (tgt := 106) hX dX12_isInverted_73 (by decide) (fun h_73 => ?_) (fun h_73 => ?_)
                · skip
                  refine j_inc1 hX dX12_isInverted_106 rfl (by omega) ?_
                  refine j_goto (tgt := 32) hX dX12_isInverted_109 (by decide) ?_
                  refine j_fg2 ?_
                  exact ih_32 _ _ (by omega) hf2 hw2 h0Z (NT_S hN (fun _ p p0 p1 => hT p p0 (by omega))) (by omega)
                · skip
                  have hsl : s ≤ v + V 55 2 - 2 := by omega
                  refine j_al0 hX dX12_isInverted_76 rfl ?_
                  refine j_il1 hX dX12_isInverted_77 ?_
                  refine j_il2 hX dX12_isInverted_78 ?_
                  refine j_cVI2 (ci := 12) hX hG lk_X12_358 (ok_X12_tells mo_Z tm_Z (by omega) (by rw [f1_Z, f2_Z]; exact hpw) (by rw [f58_Z, f1_Z, f2_Z, f3_Z]; exact hGv) (by rw [f2_Z]; omega)) (by decide) rfl (Nat.le_of_ble_eq_true rfl) (Nat.le_of_ble_eq_true rfl) (Nat.le_of_ble_eq_true rfl) rfl dX12_isInverted_79 (fun x_79 V_79 h_79 => ?_)
                  obtain ⟨r_79, f_79⟩ := h_79
                  rw [f58_Z, f1_Z, f2_Z, f3_Z] at r_79
                  refine j_if_ne (tgt := 88) hX dX12_isInverted_82 (by decide) (fun h_82 => ?_) (fun h_82 => ?_)
                  · skip
                    refine j_al0 hX dX12_isInverted_88 rfl ?_
                    refine j_il1 hX dX12_isInverted_89 ?_
                    refine j_putI hX hG fp_X12_352 rfl (by decide) dX12_isInverted_90 ?_
                    refine j_al0 hX dX12_isInverted_93 rfl ?_
                    refine j_il2 hX dX12_isInverted_94 ?_
                    refine j_putI hX hG fp_X12_361 rfl (by decide) dX12_isInverted_95 ?_
                    refine j_iconst hX dX12_isInverted_98 ⟨by decide, by decide⟩ ?_
                    exact j_retZ hR dX12_isInverted_99 (by omega) (by
      rcases r_79 with ⟨a, b, c, d⟩ | ⟨a, b⟩
      · generalize hE : up _ 55 40 s = E
        have e39 : E 55 39 = v := by rw [← hE, up_n _ (by decide), up_s]
        have e40 : E 55 40 = s := by rw [← hE, up_s]
        have e38 : E 55 38 = 1 := by rw [← hE, up_n _ (by decide), up_n _ (by decide), f_79 55 38 (by decide)]; exact hw2.1
        have e74 : E 74 = V_79 74 := by rw [← hE, up_r _ (by decide), up_r _ (by decide)]
        have e0 : E 55 0 = V 55 0 := by rw [← hE, up_n _ (by decide), up_n _ (by decide), f_79 55 0 (by decide)]; exact h0Z
        have eF : fI V E := by rw [← hE]; exact fI_u (fI_u (fI_f hf2 f_79 (by decide)) (by decide)) (by decide)
        clear hE
        refine ⟨by rw [e39, if_pos (by omega)], e38, ⟨?_, fun _ => ?_⟩, eF, e0⟩
        · rw [e39, e40]
          exact Or.inr ⟨by omega, hpw, by omega, b, hT, fun u u0 u1 => hN u u0 u1⟩
        · rw [e39, e40, e74]
          exact ⟨c, d⟩
      · omega)
                  · skip
                    refine j_goto (tgt := 100) hX dX12_isInverted_85 (by decide) ?_
                    refine j_inc2 hX dX12_isInverted_100 rfl (by omega) ?_
                    refine j_goto (tgt := 64) hX dX12_isInverted_103 (by decide) ?_
                    exact ih_64 _ _ (by omega) (fI_f hf2 f_79 (by decide)) ⟨(f_79 55 38 (by decide)).trans hw2.1, (f_79 55 39 (by decide)).trans hw2.2⟩ ((f_79 55 0 (by decide)).trans h0Z) (fun u u0 u1 => (f_79 73 u (by decide)).trans (hGv u u0 u1)) (lt_stepI hT (r_79.elim (fun q => absurd q.1 (by omega)) (fun q => q.2))) (by omega)
            exact lp_64 _ 0 _ ⟨by decide, by omega⟩ (fI_f hf f_59 (by decide)) ⟨(f_59 55 38 (by decide)).trans hw9.1, (f_59 55 39 (by decide)).trans hw9.2⟩ ((f_59 55 0 (by decide)).trans h0W) g_59 (fun p p0 p1 => by omega) (Nat.lt_succ_self _)
    exact lp_32 _ _ _ ⟨by decide, by decide⟩ (fI_u (fI_u fI_0 (by decide)) (by decide)) ⟨by rw [up_n _ (by decide), up_s], up_s ..⟩ (by rw [up_n _ (by decide), up_n _ (by decide)]) (fun u u0 u1 => by omega) (Nat.lt_succ_self _)
  · skip
    refine j_al0 hX dX12_isInverted_7 rfl ?_
    refine j_getI hX hG fl_X12_352 (Or.inl rfl) (by decide) dX12_isInverted_8 ?_
    refine j_if_le (tgt := 18) hX dX12_isInverted_11 (by decide) (fun h_11 => ?_) (fun h_11 => ?_)
    · skip
      refine j_iconst hX dX12_isInverted_18 ⟨by decide, by decide⟩ ?_
      exact j_retZ hR dX12_isInverted_19 (by omega) ⟨by first | exact (if_pos (by omega)).symm | exact (if_neg (by omega)).symm, one_of hoV h_4, hik h_4, fI_0, rfl⟩
    · skip
      refine j_iconst hX dX12_isInverted_14 ⟨by decide, by decide⟩ ?_
      refine j_goto (tgt := 19) hX dX12_isInverted_15 (by decide) ?_
      exact j_retZ hR dX12_isInverted_19 (by omega) ⟨by first | exact (if_pos (by omega)).symm | exact (if_neg (by omega)).symm, one_of hoV h_4, hik h_4, fI_0, rfl⟩
set_option maxHeartbeats 4000000 in
theorem ok_X12_wordBy {V : VV} {d : Int} (hmo : MO V) (hw : 1 ≤ V 55 39 ∧ V 55 39 ≤ 5) : Ok NA yX12_wordBy cX12_wordBy 5 (some .int) 2 43 [vA 55, vI d] V (pI (fun x9 V' => x9 = decC (V 55 1) (V 55 39).toNat d ∧ V' = V)) := by
  refine Ok.intro (by decide +kernel) (Nat.le_of_ble_eq_true rfl) (fun X G hX hG hR hoa hoV => ?_)
  show J X G 0 [vA 55, vI d, vU, vU, vU] [] V
  have hb9 := hmo.b
  have g7 := pw5 hb9.1 (k := (V 55 39).toNat) (by omega)
  refine j_il1 hX dX12_wordBy_0 ?_
  refine j_if_lt (tgt := 17) hX dX12_wordBy_1 (by decide) (fun h_1 => ?_) (fun h_1 => ?_)
  · skip
    refine j_iconst hX dX12_wordBy_17 ⟨by decide, by decide⟩ ?_
    exact j_retI hR dX12_wordBy_18 ⟨(by first | exact (dc_neg _ _ (by omega)).symm | exact (dc_big _ _ (by omega)).symm), rfl⟩
  · skip
    refine j_il1 hX dX12_wordBy_4 ?_
    refine j_bipush hX dX12_wordBy_5 (by decide) ⟨by decide, by decide⟩ ?_
    refine j_al0 hX dX12_wordBy_7 rfl ?_
    refine j_getI hX hG fl_X12_352 (Or.inl rfl) (by decide) dX12_wordBy_8 ?_
    refine j_pSI2 hX hG lk_X12_349 (ok_X12_power (by decide) (by omega)) (Nat.le_of_ble_eq_true rfl) (Nat.le_of_ble_eq_true rfl) (Nat.le_of_ble_eq_true rfl) rfl dX12_wordBy_11 ?_
    refine j_icmp_lt (tgt := 19) hX dX12_wordBy_14 (by decide) (fun h_14 => ?_) (fun h_14 => ?_)
    · skip
      refine j_iconst hX dX12_wordBy_19 ⟨by decide, by decide⟩ ?_
      refine j_is2 hX dX12_wordBy_20 rfl ?_
      refine j_al0 hX dX12_wordBy_21 rfl ?_
      refine j_getI hX hG fl_X12_352 (Or.inl rfl) (by decide) dX12_wordBy_22 ?_
      refine j_iconst hX dX12_wordBy_25 ⟨by decide, by decide⟩ ?_
      refine j_isub hX dX12_wordBy_26 (by omega) ?_
      refine j_is3 hX dX12_wordBy_27 rfl ?_
      have lp_28 : ∀ (f9 : Nat) (k m : Int), (-1 ≤ k ∧ k ≤ V 55 39 - 1) → (decC (V 55 1) (V 55 39 - 1 - k).toNat (d / 10 ^ (k + 1).toNat) = m ∧ 0 ≤ m ∧ m < V 55 1 ^ (V 55 39 - 1 - k).toNat) → ((k + 1).toNat) < f9 → J X G 28 [vA 55, vI d, vI m, vI k, vU] [] V := by
        intro f9
        induction f9 with
        | zero => intro k m _ _ hm; exact absurd hm (Nat.not_lt_zero _)
        | succ f9 ih_28 =>
          intro k m hk hmw hm
          refine j_il3 hX dX12_wordBy_28 ?_
          refine j_if_lt (tgt := 72) hX dX12_wordBy_29 (by decide) (fun h_29 => ?_) (fun h_29 => ?_)
          · skip
            refine j_il2 hX dX12_wordBy_72 ?_
            exact j_retI hR dX12_wordBy_73 ⟨(dc_end hmw.1 (by omega)).symm, rfl⟩
          · skip
            have hp1 : (0 : Int) < 10 ^ k.toNat := Int.pow_pos (by decide)
            have hM := md_b (d / 10 ^ k.toNat) (n := 10) (by decide)
            have hq0 : 0 ≤ d / 10 ^ k.toNat := Int.ediv_nonneg (by omega) (by omega)
            have hmb := iw_m hb9.1 hmw.2 (show V 55 39 - 1 - k ≤ 4 by omega)
            refine j_il1 hX dX12_wordBy_32 ?_
            refine j_bipush hX dX12_wordBy_33 (by decide) ⟨by decide, by decide⟩ ?_
            refine j_il3 hX dX12_wordBy_35 ?_
            refine j_pSI2 hX hG lk_X12_349 (ok_X12_power (by decide) (by omega)) (Nat.le_of_ble_eq_true rfl) (Nat.le_of_ble_eq_true rfl) (Nat.le_of_ble_eq_true rfl) rfl dX12_wordBy_36 ?_
            refine j_idiv hX dX12_wordBy_39 hp1 (by omega) ?_
            refine j_bipush hX dX12_wordBy_40 (by decide) ⟨by decide, by decide⟩ ?_
            refine j_irem hX dX12_wordBy_42 (by decide) hq0 ?_
            refine j_is4 hX dX12_wordBy_43 rfl ?_
            refine j_al0 hX dX12_wordBy_45 rfl ?_
            refine j_il4 hX dX12_wordBy_46 ?_
            refine j_pVI1 (ci := 12) hX hG lk_X12_290 (ok_X12_isState hb9.1) (by decide) rfl (Nat.le_of_ble_eq_true rfl) (Nat.le_of_ble_eq_true rfl) (Nat.le_of_ble_eq_true rfl) rfl dX12_wordBy_48 ?_
            refine j_ifz_ne (tgt := 56) hX dX12_wordBy_51 (by decide) (fun h_51 => ?_) (fun h_51 => ?_)
            · skip
              refine j_al0 hX dX12_wordBy_56 rfl ?_
              refine j_getI hX hG fl_X12_136 (Or.inl rfl) (by decide) dX12_wordBy_57 ?_
              refine j_il2 hX dX12_wordBy_60 ?_
              refine j_imul hX dX12_wordBy_61 (by omega) ?_
              refine j_il4 hX dX12_wordBy_62 ?_
              refine j_iadd hX dX12_wordBy_64 (by omega) ?_
              refine j_is2 hX dX12_wordBy_65 rfl ?_
              refine j_inc3 hX dX12_wordBy_66 rfl (by omega) ?_
              refine j_goto (tgt := 28) hX dX12_wordBy_69 (by decide) ?_
              refine j_fg4 ?_
              exact ih_28 _ _ (by omega) (dc_s hb9.1 (by omega) hmw (by omega) (by omega)) (by omega)
            · skip
              refine j_iconst hX dX12_wordBy_54 ⟨by decide, by decide⟩ ?_
              exact j_retI hR dX12_wordBy_55 ⟨(dc_bad (k := k) (by omega) (by omega) (by omega) (by omega) (by omega)).symm, rfl⟩
      exact lp_28 _ _ 0 (by omega) (dc_0 (by omega) (by omega)) (Nat.lt_succ_self _)
    · skip
      refine j_iconst hX dX12_wordBy_17 ⟨by decide, by decide⟩ ?_
      exact j_retI hR dX12_wordBy_18 ⟨(by first | exact (dc_neg _ _ (by omega)).symm | exact (dc_big _ _ (by omega)).symm), rfl⟩
