theorem j_ldivZ {X : Cx} {own : String} {cc : ByteArray} {nL fr lo : Nat} {G : GS} {pc : Nat} {ls st : List MV} {V : VV} {x y : Int} (hX : Good X own cc nL fr lo) (hd : decode cc pc = .ok (.ldiv, 1)) (hy : y ≠ 0) (ho : -9223372036854775808 ≤ x.tdiv y ∧ x.tdiv y ≤ 9223372036854775807) (kk : J X G (pc + 1) ls (vL (x.tdiv y) :: st) V) : J X G pc ls (vL y :: vL x :: st) V := fun h1 h2 h3 H locs lsr hW hS hL => by
  obtain ⟨a, b, c⟩ := ok2L h2
  refine lv_ldiv hX.1 hX.2.1 hd (ne0_64 (y := y) b hy) ?_
  rw [← Int64.ofInt_tdiv a.1 a.2 b.1 b.2]
  exact kk h1 (okl_cons (okL ho) c) h3 H locs lsr hW hS hL
theorem gd_b {b : Int} (hb : -6561 ≤ b ∧ b ≤ 6561) (hb0 : b ≠ 0) (t : Int) : 0 < (Int.gcd t b : Int) ∧ (Int.gcd t b : Int) ≤ 6561 := by
  have h0 : 0 < (Int.gcd t b : Int) := by have := Int.gcd_pos_of_ne_zero_right t hb0; omega
  have hd : (Int.gcd t b : Int) ∣ b := Int.gcd_dvd_right ..
  refine ⟨h0, ?_⟩
  by_cases z : 0 < b
  · have := Int.le_of_dvd z hd; omega
  · have := Int.le_of_dvd (show 0 < -b by omega) (Int.dvd_neg.mpr hd); omega
theorem gd_t {t d s : Int} (ht : -6561 ≤ t ∧ t ≤ 6561) (hd : 0 < d) (hs : s = 1 ∨ s = -1) : d * s ≠ 0 ∧ t.tdiv (d * s) = s * t.tdiv d ∧ -6561 ≤ s * t.tdiv d ∧ s * t.tdiv d ≤ 6561 := by
  have h := tdb9 (x := t) (d := d) (c := 6561) hd ht
  rcases hs with rfl | rfl
  · rw [Int.mul_one, Int.one_mul]; exact ⟨by omega, rfl, h⟩
  · rw [show d * -1 = -d by omega, Int.tdiv_neg]; exact ⟨by omega, by omega, by omega, by omega⟩
/-- the model's basis -/
def MBP (W : VV) (T : Int → Int) (g N n : Int) : Prop := ∃ C, CL g (GEN T g N n) C g ∧ BAS g C (W 55 46) (fun d x => W 77 (12 * d + 2 * x)) (fun d x => W 77 (12 * d + 2 * x + 1))
def fS (V W : VV) : Prop := (∀ b, b ≠ 0 → b ≠ 45 → b ≠ 46 → W 55 b = V 55 b) ∧ ∀ a b, a ≠ 55 → (a < 75 ∨ 78 < a) → W a b = V a b
theorem fS_0 {V : VV} : fS V V := ⟨fun _ _ _ _ => rfl, fun _ _ _ _ => rfl⟩
theorem fS_u {V W : VV} {j x : Int} (h : fS V W) (hj : j = 0 ∨ j = 45 ∨ j = 46) : fS V (up W 55 j x) := ⟨fun b b0 b1 b2 => by rw [up_n _ (by omega)]; exact h.1 b b0 b1 b2, fun a b a1 a2 => by rw [up_n _ (fun q => a1 q.1)]; exact h.2 a b a1 a2⟩
theorem fS_u2 {V W : VV} {k j x : Int} (h : fS V W) (hk : 75 ≤ k ∧ k ≤ 78) : fS V (up W k j x) := ⟨fun b b0 b1 b2 => by rw [up_n _ (by omega)]; exact h.1 b b0 b1 b2, fun a b a1 a2 => by rw [up_n _ (by omega)]; exact h.2 a b a1 a2⟩
theorem fS_f {V W Z : VV} {l : List Int} (h : fS V W) (hf : fr l W Z) (hl : ∀ a, a ∈ l → 75 ≤ a ∧ a ≤ 78) : fS V Z := ⟨fun b b0 b1 b2 => (hf 55 b (fun q => by have := hl 55 q; omega)).trans (h.1 b b0 b1 b2), fun a b a1 a2 => (hf a b (fun q => by have := hl a q; omega)).trans (h.2 a b a1 a2)⟩
theorem fS_t {V W Z : VV} (h : fS V W) (h' : fS W Z) : fS V Z := ⟨fun b b0 b1 b2 => (h'.1 b b0 b1 b2).trans (h.1 b b0 b1 b2), fun a b a1 a2 => (h'.2 a b a1 a2).trans (h.2 a b a1 a2)⟩
theorem one_of45 {V : VV} (h : okV V) (h1 : ¬ V 55 45 = 0) : V 55 45 = 1 := ((h 55 45).2.2 (by decide)).resolve_left h1
theorem MO.gg {V : VV} (ho : MO V) : V 55 4 ≤ V 55 1 * V 55 1 := by
  have hb := ho.b
  have h2 := Int.mul_le_mul_of_nonneg_left (a := 1) (b := V 55 1) (c := V 55 1) (by omega) (by omega)
  rcases ho.2.1 with h | h <;> omega
theorem GJM_0 {Y : VV} {T : Int → Int} {g N : Int} (h : ∀ j, 0 ≤ j → j < Y 55 1 → Y 78 j = 0) : GJM Y (GEN T g N 0) := by
  have hz : ∀ x, 0 ≤ x → x < Y 55 1 → rwM Y x x = 0 := fun x a b => rw0 (h x a b)
  exact ⟨⟨fun x a b c => absurd (hz x a b) c, fun x a b c => absurd (hz x a b) c, fun f ⟨e, e0, e1, _⟩ => by omega, fun x a b c => absurd (hz x a b) c, fun x y a b _ _ c => absurd (hz x a b) c, fun f ⟨e, e0, e1, _⟩ => by omega⟩, fun x a b c => absurd (h x a b) c⟩
theorem brn {W Z Y : VV} {f x t bl T B : Int} (h : BROW (rwM W) f (fun y => Z 77 (12 * (cnF (rwM W) f) + 2 * y)) (fun y => Z 77 (12 * (cnF (rwM W) f) + 2 * y + 1)) x) (_ : 0 ≤ x) (l : LT9 t bl T B) (ht : t = if rwM W x x = 0 then (if x = f then 1 else 0) else -(rwM W x f)) (hb : bl = if rwM W x x = 0 then 1 else rwM W x x) (e : Y = up (up Z 77 (12 * cnF (rwM W) f + 2 * x) T) 77 (12 * cnF (rwM W) f + 2 * x + 1) B) : BROW (rwM W) f (fun y => Y 77 (12 * (cnF (rwM W) f) + 2 * y)) (fun y => Y 77 (12 * (cnF (rwM W) f) + 2 * y + 1)) (x + 1) := by
  have hT : Y 77 (12 * cnF (rwM W) f + 2 * x) = T := by rw [e, up_n _ (by omega), up_s]
  have hB : Y 77 (12 * cnF (rwM W) f + 2 * x + 1) = B := by rw [e, up_s]
  refine lt_stepI (BROW_e h (fun y y0 y1 => ⟨by show Y 77 (12 * cnF (rwM W) f + 2 * y) = _; rw [e, up_n _ (by omega), up_n _ (by omega)], by show Y 77 (12 * cnF (rwM W) f + 2 * y + 1) = _; rw [e, up_n _ (by omega), up_n _ (by omega)]⟩)) ?_
  · show (rwM W x x ≠ 0 → LT9 (-(rwM W x f)) (rwM W x x) (Y 77 (12 * cnF (rwM W) f + 2 * x)) (Y 77 (12 * cnF (rwM W) f + 2 * x + 1))) ∧ (rwM W x x = 0 → Y 77 (12 * cnF (rwM W) f + 2 * x) = (if x = f then 1 else 0) ∧ Y 77 (12 * cnF (rwM W) f + 2 * x + 1) = 1)
    rw [hT, hB]
    refine ⟨fun q => ?_, fun q => ?_⟩
    · rw [if_neg q] at ht hb
      rw [ht, hb] at l
      exact l
    · rw [if_pos q] at ht hb
      rw [hb] at l
      have u := LT_u l (LT_id _) (by decide) (by decide) rfl
      exact ⟨u.1.trans ht, u.2⟩
set_option maxHeartbeats 4000000 in
theorem ok_X12_laysPart {V : VV} {i t b : Int} (hi : 0 ≤ i ∧ i ≤ 70) (ht : -6561 ≤ t ∧ t ≤ 6561) (hb : -6561 ≤ b ∧ b ≤ 6561) (hb0 : b ≠ 0) : Ok NA yX12_laysPart cX12_laysPart 8 none 1 29 [vA 55, vI i, vL t, vL b] V (pV (fun V' => ∃ T B, LT9 t b T B ∧ V' = up (up V 77 i T) 77 (i + 1) B)) := by
  refine Ok.intro (by decide +kernel) (Nat.le_of_ble_eq_true rfl) (fun X G hX hG hR hoa hoV => ?_)
  show J X G 0 [vA 55, vI i, vL t, vU, vL b, vU, vU, vU] [] V
  have hgd := gd_b hb hb0 t
  refine j_ll2 hX dX12_laysPart_0 ?_
  refine j_ll4 hX dX12_laysPart_1 ?_
  refine j_pSL2 hX hG lk_X12_370 (ok_X12_common (by omega) (by omega)) (Nat.le_of_ble_eq_true rfl) (Nat.le_of_ble_eq_true rfl) (Nat.le_of_ble_eq_true rfl) rfl dX12_laysPart_3 ?_
  have jn_20 : ∀ (s : Int), (s = if b < 0 then -1 else 1) → J X G 20 [vA 55, vI i, vL t, vU, vL b, vU, vU, vU] [vL s, vL (Int.gcd t b : Int)] V := by
    intro s hs9
    refine j_lmul hX dX12_laysPart_20 (by rw [hs9]; split <;> omega) ?_
    have hq := LT_of (t := t) hb0 hs9 rfl
    have hsg : s = 1 ∨ s = -1 := by rw [hs9]; split <;> simp
    have td1 := gd_t (t := t) ht hgd.1 hsg
    have td2 := gd_t (t := b) hb hgd.1 hsg
    refine j_ls6 hX dX12_laysPart_21 rfl ?_
    refine j_al0 hX dX12_laysPart_23 rfl ?_
    refine j_getR (q := 77) hX hG fl_X12_80 rfl rfl (by decide) dX12_laysPart_24 ?_
    refine j_il1 hX dX12_laysPart_27 ?_
    refine j_ll2 hX dX12_laysPart_28 ?_
    refine j_ll6 hX dX12_laysPart_29 ?_
    refine j_ldivZ hX dX12_laysPart_31 td1.1 (by rw [td1.2.1]; omega) ?_
    refine j_last (n := 72) hX hG (by decide) (by omega) dX12_laysPart_32 ?_
    refine j_al0 hX dX12_laysPart_33 rfl ?_
    refine j_getR (q := 77) hX hG fl_X12_80 rfl rfl (by decide) dX12_laysPart_34 ?_
    refine j_il1 hX dX12_laysPart_37 ?_
    refine j_iconst hX dX12_laysPart_38 ⟨by decide, by decide⟩ ?_
    refine j_iadd hX dX12_laysPart_39 (by omega) ?_
    refine j_ll4 hX dX12_laysPart_40 ?_
    refine j_ll6 hX dX12_laysPart_42 ?_
    refine j_ldivZ hX dX12_laysPart_44 td1.1 (by rw [td2.2.1]; omega) ?_
    refine j_last (n := 72) hX hG (by decide) (by omega) dX12_laysPart_45 ?_
    exact j_ret hR dX12_laysPart_46 ⟨_, _, hq.2, by rw [td1.2.1, td2.2.1]⟩
  refine j_ll4 hX dX12_laysPart_6 ?_
  refine j_lconst (x := 0) hX dX12_laysPart_8 rfl ⟨by decide, by decide⟩ ?_
  refine j_lcmp_ge (tgt := 19) hX dX12_laysPart_9 dX12_laysPart_10 (by decide) (fun h_10 => ?_) (fun h_10 => ?_)
  · skip
    refine j_lconst (x := 1) hX dX12_laysPart_19 rfl ⟨by decide, by decide⟩ ?_
    exact jn_20 _ (by first | exact (if_pos (by omega)).symm | exact (if_neg (by omega)).symm)
  · skip
    refine j_ldc2 (x := (-1)) hX dX12_laysPart_13 lc_X12_395 ⟨by decide, by decide⟩ ?_
    refine j_goto (tgt := 20) hX dX12_laysPart_16 (by decide) ?_
    exact jn_20 _ (by first | exact (if_pos (by omega)).symm | exact (if_neg (by omega)).symm)
set_option maxHeartbeats 4000000 in
theorem ok_X12_laysSums {V : VV} (hmo : MO V) (htm : TRM V) (hbk : V 55 45 ≠ 0 → MBP V (V 58) (V 55 1) (V 55 4) (V 55 3)) : Ok NA yX12_laysSums cX12_laysSums 5 none 3 76 [vA 55] V (pV (fun V' => V' 55 45 = 1 ∧ MBP V' (V 58) (V 55 1) (V 55 4) (V 55 3) ∧ fS V V' ∧ V' 55 0 = V 55 0)) := by
  refine Ok.intro (by decide +kernel) (Nat.le_of_ble_eq_true rfl) (fun X G hX hG hR hoa hoV => ?_)
  show J X G 0 [vA 55, vU, vU, vU, vU] [] V
  have hb9 := hmo.b
  have hnN := MO.le hmo
  refine j_al0 hX dX12_laysSums_0 rfl ?_
  refine j_getI hX hG fl_X12_162 (Or.inr rfl) (by decide) dX12_laysSums_1 ?_
  refine j_if_eq (tgt := 8) hX dX12_laysSums_4 (by decide) (fun h_4 => ?_) (fun h_4 => ?_)
  · skip
    refine j_al0 hX dX12_laysSums_8 rfl ?_
    refine j_iconst hX dX12_laysSums_9 ⟨by decide, by decide⟩ ?_
    refine j_putZ hX hG fp_X12_162 rfl (by omega) (by decide) dX12_laysSums_10 ?_
    refine j_iconst hX dX12_laysSums_13 ⟨by decide, by decide⟩ ?_
    refine j_is1 hX dX12_laysSums_14 rfl ?_
    have lp_15 : ∀ (f9 : Nat) (x : Int) (Y : VV), (0 ≤ x ∧ x ≤ V 55 1) → (fS V Y) → (Y 55 45 = 1 ∧ Y 55 0 = V 55 0) → (∀ j, 0 ≤ j → j < x → Y 78 j = 0) → ((V 55 1 - x).toNat) < f9 → J X G 15 [vA 55, vI x, vU, vU, vU] [] Y := by
      intro f9
      induction f9 with
      | zero => intro x Y _ _ _ _ hm; exact absurd hm (Nat.not_lt_zero _)
      | succ f9 ih_15 =>
        intro x Y hx hf0 hk0 hD hm
        refine j_il1 hX dX12_laysSums_15 ?_
        have f1_Y : Y 55 1 = V 55 1 := hf0.1 1 (by decide) (by decide) (by decide)
        have f2_Y : Y 55 2 = V 55 2 := hf0.1 2 (by decide) (by decide) (by decide)
        have f3_Y : Y 55 3 = V 55 3 := hf0.1 3 (by decide) (by decide) (by decide)
        have f4_Y : Y 55 4 = V 55 4 := hf0.1 4 (by decide) (by decide) (by decide)
        have f58_Y : Y 58 = V 58 := funext fun b => hf0.2 58 b (by decide) (by decide)
        have mo_Y : MO Y := by unfold MO; rw [f1_Y, f2_Y, f3_Y, f4_Y]; exact hmo
        have tm_Y : TRM Y := by unfold TRM; rw [f1_Y, f3_Y, f58_Y]; exact htm
        refine j_al0 hX dX12_laysSums_16 rfl ?_
        refine j_getI hX hG fl_X12_136 (Or.inl rfl) (by decide) dX12_laysSums_17 ?_
        refine j_fx (x := V 55 1) (by first | assumption | rfl) ?_
        refine j_icmp_ge (tgt := 36) hX dX12_laysSums_20 (by decide) (fun h_20 => ?_) (fun h_20 => ?_)
        · skip
          refine j_iconst hX dX12_laysSums_36 ⟨by decide, by decide⟩ ?_
          refine j_is1 hX dX12_laysSums_37 rfl ?_
          have lp_38 : ∀ (f9 : Nat) (e : Int) (W : VV), (0 ≤ e ∧ e ≤ V 55 3) → (fS V W) → (W 55 45 = 1 ∧ W 55 0 = V 55 0) → (GJM W (GEN (V 58) (V 55 1) (V 55 4) e)) → ((V 55 3 - e).toNat) < f9 → J X G 38 [vA 55, vI e, vU, vU, vU] [] W := by
            intro f9
            induction f9 with
            | zero => intro e W _ _ _ _ hm; exact absurd hm (Nat.not_lt_zero _)
            | succ f9 ih_38 =>
              intro e W he hf1 hk1 hJ hm
              refine j_il1 hX dX12_laysSums_38 ?_
              have f1_W : W 55 1 = V 55 1 := hf1.1 1 (by decide) (by decide) (by decide)
              have f2_W : W 55 2 = V 55 2 := hf1.1 2 (by decide) (by decide) (by decide)
              have f3_W : W 55 3 = V 55 3 := hf1.1 3 (by decide) (by decide) (by decide)
              have f4_W : W 55 4 = V 55 4 := hf1.1 4 (by decide) (by decide) (by decide)
              have f58_W : W 58 = V 58 := funext fun b => hf1.2 58 b (by decide) (by decide)
              have mo_W : MO W := by unfold MO; rw [f1_W, f2_W, f3_W, f4_W]; exact hmo
              have tm_W : TRM W := by unfold TRM; rw [f1_W, f3_W, f58_W]; exact htm
              refine j_al0 hX dX12_laysSums_39 rfl ?_
              refine j_getI hX hG fl_X12_148 (Or.inl rfl) (by decide) dX12_laysSums_40 ?_
              refine j_fx (x := V 55 3) (by first | assumption | rfl) ?_
              refine j_icmp_ge (tgt := 61) hX dX12_laysSums_43 (by decide) (fun h_43 => ?_) (fun h_43 => ?_)
              · skip
                have he9 : e = V 55 3 := by omega
                rw [he9] at hJ
                have hJ1 := hJ.1
                have hJ2 := hJ.2
                rw [f1_W] at hJ1 hJ2
                have hnb : ∀ x, 0 ≤ x → x < V 55 1 → rwM W x x ≠ 0 → NB (V 55 1) 6561 (rwM W x) := fun x x0 x1 hx => hJ1.nb hb9.1 x0 x1 hx
                refine j_al0 hX dX12_laysSums_61 rfl ?_
                refine j_iconst hX dX12_laysSums_62 ⟨by decide, by decide⟩ ?_
                refine j_putI hX hG fp_X12_388 rfl (by decide) dX12_laysSums_63 ?_
                refine j_iconst hX dX12_laysSums_66 ⟨by decide, by decide⟩ ?_
                refine j_is1 hX dX12_laysSums_67 rfl ?_
                have lp_68 : ∀ (f9 : Nat) (f : Int) (Z : VV), (0 ≤ f ∧ f ≤ V 55 1) → ((∀ b, b ≠ 46 → Z 55 b = W 55 b) ∧ fr [55, 77] W Z) → (Z 55 46 = cnF (rwM W) f) → (∀ j, 0 ≤ j → j < f → (rwM W) j j = 0 → BROW (rwM W) j (fun y => Z 77 (12 * (cnF (rwM W) j) + 2 * y)) (fun y => Z 77 (12 * (cnF (rwM W) j) + 2 * y + 1)) (V 55 1)) → ((V 55 1 - f).toNat) < f9 → J X G 68 [vA 55, vI f, vU, vU, vU] [] Z := by
                  intro f9
                  induction f9 with
                  | zero => intro f Z _ _ _ _ hm; exact absurd hm (Nat.not_lt_zero _)
                  | succ f9 ih_68 =>
                    intro f Z hfr hf2 hd hBB hm
                    refine j_il1 hX dX12_laysSums_68 ?_
                    have f1_Z : Z 55 1 = V 55 1 := (hf2.1 1 (by decide)).trans f1_W
                    refine j_al0 hX dX12_laysSums_69 rfl ?_
                    refine j_getI hX hG fl_X12_136 (Or.inl rfl) (by decide) dX12_laysSums_70 ?_
                    refine j_fx (x := V 55 1) (by first | assumption | rfl) ?_
                    refine j_icmp_ge (tgt := 195) hX dX12_laysSums_73 (by decide) (fun h_73 => ?_) (fun h_73 => ?_)
                    · skip
                      exact j_ret hR dX12_laysSums_195 (by
      have ef : f = V 55 1 := by omega
      rw [ef] at hd hBB
      refine ⟨(hf2.1 45 (by decide)).trans hk1.1, ⟨rwM W, hJ1.cl hb9.1, hd, hBB⟩, ?_, (hf2.1 0 (by decide)).trans hk1.2⟩
      exact ⟨fun b b0 b1 b2 => (hf2.1 b b2).trans (hf1.1 b b0 b1 b2), fun a b a1 a2 => (hf2.2 a b (by simp; omega)).trans (hf1.2 a b a1 a2)⟩)
                    · skip
                      have w78 : Z 78 f = W 78 f := hf2.2 78 f (by decide)
                      have hcb := cnF_b (rwM W) hfr.1
                      refine j_al0 hX dX12_laysSums_76 rfl ?_
                      refine j_getR (q := 78) hX hG fl_X12_83 rfl rfl (by decide) dX12_laysSums_77 ?_
                      refine j_il1 hX dX12_laysSums_80 ?_
                      refine j_zald (n := 6) hX hG (by decide) (by omega) dX12_laysSums_81 ?_
                      refine j_if_eq (tgt := 88) hX dX12_laysSums_82 (by decide) (fun h_82 => ?_) (fun h_82 => ?_)
                      · skip
                        have hfz : rwM W f f = 0 := rw0 (w78.symm.trans h_82)
                        refine j_iconst hX dX12_laysSums_88 ⟨by decide, by decide⟩ ?_
                        refine j_is2 hX dX12_laysSums_89 rfl ?_
                        have lp_90 : ∀ (f9 : Nat) (x : Int) (Z2 : VV), (0 ≤ x ∧ x ≤ V 55 1) → ((∀ b, b ≠ 46 → Z2 55 b = W 55 b) ∧ fr [55, 77] W Z2) → (Z2 55 46 = cnF (rwM W) f) → (∀ j, 0 ≤ j → j < f → (rwM W) j j = 0 → BROW (rwM W) j (fun y => Z2 77 (12 * (cnF (rwM W) j) + 2 * y)) (fun y => Z2 77 (12 * (cnF (rwM W) j) + 2 * y + 1)) (V 55 1)) → (BROW (rwM W) f (fun y => Z2 77 (12 * (cnF (rwM W) f) + 2 * y)) (fun y => Z2 77 (12 * (cnF (rwM W) f) + 2 * y + 1)) x) → ((V 55 1 - x).toNat) < f9 → J X G 90 [vA 55, vI f, vI x, vU, vU] [] Z2 := by
                          intro f9
                          induction f9 with
                          | zero => intro x Z2 _ _ _ _ _ hm; exact absurd hm (Nat.not_lt_zero _)
                          | succ f9 ih_90 =>
                            intro x Z2 hxr hf3 hd3 hB3 hrow hm
                            refine j_il2 hX dX12_laysSums_90 ?_
                            have f1_Z2 : Z2 55 1 = V 55 1 := (hf3.1 1 (by decide)).trans f1_W
                            refine j_al0 hX dX12_laysSums_91 rfl ?_
                            refine j_getI hX hG fl_X12_136 (Or.inl rfl) (by decide) dX12_laysSums_92 ?_
                            refine j_fx (x := V 55 1) (by first | assumption | rfl) ?_
                            refine j_icmp_ge (tgt := 179) hX dX12_laysSums_95 (by decide) (fun h_95 => ?_) (fun h_95 => ?_)
                            · skip
                              have ex9 : x = V 55 1 := by omega
                              have hrow9 := ex9 ▸ hrow
                              refine j_al0 hX dX12_laysSums_179 rfl ?_
                              refine j_dup hX dX12_laysSums_180 rfl ?_
                              refine j_getI hX hG fl_X12_388 (Or.inl rfl) (by decide) dX12_laysSums_181 ?_
                              refine j_iconst hX dX12_laysSums_184 ⟨by decide, by decide⟩ ?_
                              refine j_iadd hX dX12_laysSums_185 (by omega) ?_
                              refine j_putI hX hG fp_X12_388 rfl (by decide) dX12_laysSums_186 ?_
                              refine j_inc1 hX dX12_laysSums_189 rfl (by omega) ?_
                              refine j_goto (tgt := 68) hX dX12_laysSums_192 (by decide) ?_
                              refine j_fg2 ?_
                              exact ih_68 _ _ (by omega) (by first | exact ⟨fun b hb => (up_n _ (by omega)).trans (hf3.1 b hb), fr_u hf3.2 (by decide)⟩ | exact hf2) (by rw [cnF_S hfr.1]; first | (rw [up_s, if_pos hfz, hd3]; done) | (rw [if_neg hfb, Int.add_zero]; exact hd)) (by first | exact (fun j j0 j1 j2 => if q : j = f then by rw [q]; exact BROW_e hrow9 (fun y y0 y1 => ⟨up_n _ (by omega), up_n _ (by omega)⟩) else BROW_e (hB3 j j0 (by omega) j2) (fun y y0 y1 => ⟨up_n _ (by omega), up_n _ (by omega)⟩)) | exact (fun j j0 j1 j2 => if q : j = f then absurd (q ▸ j2) hfb else hBB j j0 (by omega) j2)) (by omega)
                            · skip
                              have xr : 0 ≤ x ∧ x < V 55 1 := by omega
                              have fr9 : 0 ≤ f ∧ f < V 55 1 := by omega
                              have x78 : Z2 78 x = W 78 x := hf3.2 78 x (by decide)
                              have hcx := cnF_b (rwM W) hfr.1
                              have jn_132 : ∀ (t : Int), (t = if rwM W x x = 0 then (if x = f then 1 else 0) else -(rwM W x f)) → J X G 132 [vA 55, vI f, vI x, vU, vU] [vL t] Z2 := by
                                intro t ht9
                                refine j_ls3 hX dX12_laysSums_132 rfl ?_
                                have ht8 : -6561 ≤ t ∧ t ≤ 6561 := by rw [ht9]; split; (split <;> decide); (rename_i q; have nx9 := (NB_e (hnb x xr.1 xr.2 q) fr9.1 fr9.2).2; omega)
                                have jn_170 : ∀ (bl : Int), (bl = if rwM W x x = 0 then 1 else rwM W x x) → J X G 170 [vA 55, vI f, vI x, vL t, vU] [vL bl, vL t, vI (12 * cnF (rwM W) f + 2 * x), vA 55] Z2 := by
                                  intro bl hl9
                                  refine j_cVV3 (ci := 12) hX hG lk_X12_391 (ok_X12_laysPart (by omega) ht8 (by rw [hl9]; split; decide; (rename_i q; exact (NB_e (hnb x xr.1 xr.2 q) xr.1 xr.2).2)) (by rw [hl9]; split; decide; assumption)) (by decide) rfl (Nat.le_of_ble_eq_true rfl) (Nat.le_of_ble_eq_true rfl) (Nat.le_of_ble_eq_true rfl) rfl dX12_laysSums_170 (fun V_170 h_170 => ?_)
                                  obtain ⟨T9, B9, l_170, e_170⟩ := h_170
                                  have hrn := brn hrow hxr.1 l_170 ht9 hl9 e_170
                                  refine j_inc2 hX dX12_laysSums_173 rfl (by omega) ?_
                                  refine j_goto (tgt := 90) hX dX12_laysSums_176 (by decide) ?_
                                  refine j_fg3 ?_
                                  exact ih_90 _ _ (by omega) ⟨fun b hb => by rw [e_170, up_n _ (by omega), up_n _ (by omega)]; exact hf3.1 b hb, by rw [e_170]; exact fr_u (fr_u hf3.2 (by decide)) (by decide)⟩ (by rw [e_170, up_n _ (by omega), up_n _ (by omega)]; exact hd3) (fun j j0 j1 j2 => BROW_e (hB3 j j0 j1 j2) (fun y y0 y1 => by have hl := cnF_lt j0 j1 j2; have ha := cnF_b (rwM W) j0; rw [e_170]; exact ⟨by rw [up_n _ (by omega), up_n _ (by omega)], by rw [up_n _ (by omega), up_n _ (by omega)]⟩)) hrn (by omega)
                                refine j_al0 hX dX12_laysSums_133 rfl ?_
                                refine j_bipush hX dX12_laysSums_134 (by decide) ⟨by decide, by decide⟩ ?_
                                refine j_al0 hX dX12_laysSums_136 rfl ?_
                                refine j_getI hX hG fl_X12_388 (Or.inl rfl) (by decide) dX12_laysSums_137 ?_
                                refine j_fx (x := cnF (rwM W) f) hd3 ?_
                                refine j_imul hX dX12_laysSums_140 (by omega) ?_
                                refine j_iconst hX dX12_laysSums_141 ⟨by decide, by decide⟩ ?_
                                refine j_il2 hX dX12_laysSums_142 ?_
                                refine j_imul hX dX12_laysSums_143 (by omega) ?_
                                refine j_iadd hX dX12_laysSums_144 (by omega) ?_
                                refine j_ll3 hX dX12_laysSums_145 ?_
                                refine j_al0 hX dX12_laysSums_146 rfl ?_
                                refine j_getR (q := 78) hX hG fl_X12_83 rfl rfl (by decide) dX12_laysSums_147 ?_
                                refine j_il2 hX dX12_laysSums_150 ?_
                                refine j_zald (n := 6) hX hG (by decide) (by omega) dX12_laysSums_151 ?_
                                refine j_if_eq (tgt := 169) hX dX12_laysSums_152 (by decide) (fun h_152 => ?_) (fun h_152 => ?_)
                                · skip
                                  have hxz2 : rwM W x x = 0 := rw0 (x78.symm.trans h_152)
                                  refine j_lconst (x := 1) hX dX12_laysSums_169 rfl ⟨by decide, by decide⟩ ?_
                                  exact jn_170 _ (by first | exact (if_neg hxb2).symm | exact (if_pos hxz2).symm)
                                · skip
                                  have xs2 : ¬ W 78 x = 0 := fun q => h_152 (x78.trans q)
                                  have hxb2 := hJ2 x xr.1 xr.2 xs2
                                  have rx2 := rw1 (V := W) xs2
                                  refine j_al0 hX dX12_laysSums_155 rfl ?_
                                  refine j_getR (q := 76) hX hG fl_X12_77 rfl rfl (by decide) dX12_laysSums_156 ?_
                                  refine j_bipush hX dX12_laysSums_159 (by decide) ⟨by decide, by decide⟩ ?_
                                  refine j_il2 hX dX12_laysSums_161 ?_
                                  refine j_imul hX dX12_laysSums_162 (by omega) ?_
                                  refine j_il2 hX dX12_laysSums_163 ?_
                                  refine j_iadd hX dX12_laysSums_164 (by omega) ?_
                                  refine j_lald (n := 36) hX hG (by decide) (by omega) dX12_laysSums_165 ?_
                                  refine j_eqS (st' := [vL (rwM W x x), vL t, vI (12 * cnF (rwM W) f + 2 * x), vA 55]) (by rw [rx2, hf3.2 76 _ (by decide)]) ?_
                                  refine j_goto (tgt := 170) hX dX12_laysSums_166 (by decide) ?_
                                  exact jn_170 _ (by first | exact (if_neg hxb2).symm | exact (if_pos hxz2).symm)
                              refine j_al0 hX dX12_laysSums_98 rfl ?_
                              refine j_getR (q := 78) hX hG fl_X12_83 rfl rfl (by decide) dX12_laysSums_99 ?_
                              refine j_il2 hX dX12_laysSums_102 ?_
                              refine j_zald (n := 6) hX hG (by decide) (by omega) dX12_laysSums_103 ?_
                              refine j_if_eq (tgt := 122) hX dX12_laysSums_104 (by decide) (fun h_104 => ?_) (fun h_104 => ?_)
                              · skip
                                have hxz : rwM W x x = 0 := rw0 (x78.symm.trans h_104)
                                refine j_il2 hX dX12_laysSums_122 ?_
                                refine j_il1 hX dX12_laysSums_123 ?_
                                refine j_icmp_ne (tgt := 131) hX dX12_laysSums_124 (by decide) (fun h_124 => ?_) (fun h_124 => ?_)
                                · skip
                                  refine j_lconst (x := 0) hX dX12_laysSums_131 rfl ⟨by decide, by decide⟩ ?_
                                  exact jn_132 _ (by first | exact (if_neg hxb).symm | (rw [if_pos hxz]; first | exact (if_pos h_124).symm | exact (if_neg h_124).symm))
                                · skip
                                  refine j_lconst (x := 1) hX dX12_laysSums_127 rfl ⟨by decide, by decide⟩ ?_
                                  refine j_goto (tgt := 132) hX dX12_laysSums_128 (by decide) ?_
                                  exact jn_132 _ (by first | exact (if_neg hxb).symm | (rw [if_pos hxz]; first | exact (if_pos h_124).symm | exact (if_neg h_124).symm))
                              · skip
                                have xs : ¬ W 78 x = 0 := fun q => h_104 (x78.trans q)
                                have hxb := hJ2 x xr.1 xr.2 xs
                                have rx := rw1 (V := W) xs
                                have nx9 := (NB_e (hnb x xr.1 xr.2 hxb) fr9.1 fr9.2).2
                                refine j_al0 hX dX12_laysSums_107 rfl ?_
                                refine j_getR (q := 76) hX hG fl_X12_77 rfl rfl (by decide) dX12_laysSums_108 ?_
                                refine j_bipush hX dX12_laysSums_111 (by decide) ⟨by decide, by decide⟩ ?_
                                refine j_il2 hX dX12_laysSums_113 ?_
                                refine j_imul hX dX12_laysSums_114 (by omega) ?_
                                refine j_il1 hX dX12_laysSums_115 ?_
                                refine j_iadd hX dX12_laysSums_116 (by omega) ?_
                                refine j_lald (n := 36) hX hG (by decide) (by omega) dX12_laysSums_117 ?_
                                refine j_eqS (st' := [vL (rwM W x f)]) (by rw [rx, hf3.2 76 _ (by decide)]) ?_
                                refine j_lneg hX dX12_laysSums_118 (by omega) ?_
                                refine j_goto (tgt := 132) hX dX12_laysSums_119 (by decide) ?_
                                exact jn_132 _ (by first | exact (if_neg hxb).symm | (rw [if_pos hxz]; first | exact (if_pos h_124).symm | exact (if_neg h_124).symm))
                        exact lp_90 _ 0 _ ⟨by decide, by omega⟩ hf2 hd hBB (fun y a b => by omega) (Nat.lt_succ_self _)
                      · skip
                        have hfb : ¬ rwM W f f = 0 := hJ2 f hfr.1 (by omega) (fun q => h_82 (w78.trans q))
                        refine j_goto (tgt := 189) hX dX12_laysSums_85 (by decide) ?_
                        refine j_inc1 hX dX12_laysSums_189 rfl (by omega) ?_
                        refine j_goto (tgt := 68) hX dX12_laysSums_192 (by decide) ?_
                        exact ih_68 _ _ (by omega) (by first | exact ⟨fun b hb => (up_n _ (by omega)).trans (hf3.1 b hb), fr_u hf3.2 (by decide)⟩ | exact hf2) (by rw [cnF_S hfr.1]; first | (rw [up_s, if_pos hfz, hd3]; done) | (rw [if_neg hfb, Int.add_zero]; exact hd)) (by first | exact (fun j j0 j1 j2 => if q : j = f then by rw [q]; exact BROW_e hrow9 (fun y y0 y1 => ⟨up_n _ (by omega), up_n _ (by omega)⟩) else BROW_e (hB3 j j0 (by omega) j2) (fun y y0 y1 => ⟨up_n _ (by omega), up_n _ (by omega)⟩)) | exact (fun j j0 j1 j2 => if q : j = f then absurd (q ▸ j2) hfb else hBB j j0 (by omega) j2)) (by omega)
                exact lp_68 _ 0 _ ⟨by decide, by omega⟩ ⟨fun b hb => up_n _ (fun q => hb q.2), fr_u fr_0 (by decide)⟩ (up_s ..) (fun j a b => by omega) (Nat.lt_succ_self _)
              · skip
                refine j_al0 hX dX12_laysSums_46 rfl ?_
                refine j_il1 hX dX12_laysSums_47 ?_
                refine j_cVV1 (ci := 12) hX hG lk_X12_382 (ok_X12_laysEquation mo_W tm_W (by rw [f3_W]; omega)) (by decide) rfl (Nat.le_of_ble_eq_true rfl) (Nat.le_of_ble_eq_true rfl) (Nat.le_of_ble_eq_true rfl) rfl dX12_laysSums_48 (fun V_48 h_48 => ?_)
                obtain ⟨d_48, f_48⟩ := h_48
                rw [f58_W, f1_W, f4_W] at d_48
                have n_48 : NB (V 55 1) 3 (eqV (V 58) (V 55 1) (V 55 4) e) := eqV_b (by omega) (by omega) hmo.2.2 (MO.gg hmo) htm ⟨he.1, by omega⟩
                have v1 : V_48 55 1 = V 55 1 := (f_48 55 1 (by decide)).trans f1_W
                have jm : GJM V_48 (GEN (V 58) (V 55 1) (V 55 4) e) := by unfold GJM; rw [v1, rw_c (V := W) (fun x => f_48 78 x (by decide)) (fun x => f_48 76 x (by decide))]; have h9 := hJ; unfold GJM at h9; rw [f1_W] at h9; exact ⟨h9.1, fun x a b c => h9.2 x a b (fun q => c ((f_48 78 x (by decide)).trans q))⟩
                refine j_al0 hX dX12_laysSums_51 rfl ?_
                refine j_cVV0 (ci := 12) hX hG lk_X12_385 (ok_X12_takesEquation (by rw [v1]; omega) jm (by rw [v1]; exact n_48) (fun x a b => by rw [v1] at b; exact d_48 x a b)) (by decide) rfl (Nat.le_of_ble_eq_true rfl) (Nat.le_of_ble_eq_true rfl) (Nat.le_of_ble_eq_true rfl) rfl dX12_laysSums_52 (fun V_52 h_52 => ?_)
                obtain ⟨d_52, f_52⟩ := h_52
                rw [GEN_S he.1] at d_52
                refine j_inc1 hX dX12_laysSums_55 rfl (by omega) ?_
                refine j_goto (tgt := 38) hX dX12_laysSums_58 (by decide) ?_
                exact ih_38 _ _ (by omega) (fS_f (fS_f hf1 f_48 (by decide)) f_52 (by decide)) ⟨(f_52 55 45 (by decide)).trans ((f_48 55 45 (by decide)).trans hk1.1), (f_52 55 0 (by decide)).trans ((f_48 55 0 (by decide)).trans hk1.2)⟩ d_52 (by omega)
          exact lp_38 _ 0 _ ⟨by decide, by omega⟩ hf0 hk0 (GJM_0 (by rw [f1_Y]; exact fun j a b => hD j a (by omega))) (Nat.lt_succ_self _)
        · skip
          refine j_al0 hX dX12_laysSums_23 rfl ?_
          refine j_getR (q := 78) hX hG fl_X12_83 rfl rfl (by decide) dX12_laysSums_24 ?_
          refine j_il1 hX dX12_laysSums_27 ?_
          refine j_iconst hX dX12_laysSums_28 ⟨by decide, by decide⟩ ?_
          refine j_zast (n := 6) hX hG (by decide) (by omega) (by omega) dX12_laysSums_29 ?_
          refine j_inc1 hX dX12_laysSums_30 rfl (by omega) ?_
          refine j_goto (tgt := 15) hX dX12_laysSums_33 (by decide) ?_
          exact ih_15 _ _ (by omega) (fS_u2 hf0 (by decide)) ⟨(up_n _ (by omega)).trans hk0.1, (up_n _ (by omega)).trans hk0.2⟩ (lt_stepI (fun j a b => by rw [up_n _ (by omega)]; exact hD j a b) (up_s ..)) (by omega)
    exact lp_15 _ _ _ (by omega) (fS_u fS_0 (by decide)) ⟨up_s .., up_n _ (by decide)⟩ (fun j a b => by omega) (Nat.lt_succ_self _)
  · skip
    exact j_ret hR dX12_laysSums_7 ⟨one_of45 hoV h_4, hbk h_4, fS_0, rfl⟩
