/-! the inverse rule as a whole -/
theorem SHB_TEL {T : Int → Int} {g n : Int} {v o : Nat} {sh : Int} (h : SHB T g n (g ^ o) v o sh) {p : Int} (h0 : 0 ≤ p) (hp : p < 32) : bt 32 sh p.toNat = true ↔ p < o ∧ TEL T g n v o p := by
  rw [h p.toNat (by omega), show ((p.toNat : Nat) : Int) = p by omega]
  exact ⟨fun q => ⟨by omega, q.2⟩, fun q => ⟨by omega, q.2⟩⟩
def NT (T : Int → Int) (g n w u : Int) : Prop := g ^ (u + w - 1).toNat ≤ 50000 → ∀ p, 0 ≤ p → p < u + w - 1 → ¬ TEL T g n u.toNat (u + w - 1).toNat p
def IVS (T : Int → Int) (g n w v s : Int) : Prop := (v = 0 ∧ ∀ u, 1 ≤ u → u ≤ 5 → NT T g n w u) ∨
  ((1 ≤ v ∧ v ≤ 5) ∧ g ^ (v + w - 1).toNat ≤ 50000 ∧ (0 ≤ s ∧ s < v + w - 1) ∧ TEL T g n v.toNat (v + w - 1).toNat s ∧ (∀ p, 0 ≤ p → p < s → ¬ TEL T g n v.toNat (v + w - 1).toNat p) ∧ ∀ u, 1 ≤ u → u < v → NT T g n w u)
def IVP (W : VV) (T : Int → Int) (g n w : Int) : Prop := W 42 2 = g ∧ W 42 3 = w - 2 ∧ IVS T g n w (W 42 5) (W 42 6) ∧ (W 42 5 ≠ 0 → W 42 4 = W 42 5 + w - 1 ∧ OG W T g n (g ^ (W 42 4).toNat) (W 42 5).toNat)
def IVL (V W : VV) (T : Int → Int) (g n w t : Int) : Prop := (1 ≤ t ∧ t ≤ 6) ∧ fr [42, 43] V W ∧ W 42 1 = V 15 7 ∧ W 42 2 = g ∧ W 42 3 = w - 2 ∧ ((W 42 5 = 0 ∧ ∀ u, 1 ≤ u → u < t → NT T g n w u) ∨ (1 ≤ W 42 5 ∧ W 42 5 = t - 1 ∧ IVS T g n w (W 42 5) (W 42 6) ∧ W 42 4 = W 42 5 + w - 1 ∧ OG W T g n (g ^ (W 42 4).toNat) (W 42 5).toNat))
theorem NT_S {T : Int → Int} {g n w t : Int} (h : ∀ u, 1 ≤ u → u < t → NT T g n w u) (h2 : NT T g n w t) : ∀ u, 1 ≤ u → u < t + 1 → NT T g n w u := fun u h0 h1 => by
  by_cases e : u = t
  · rw [e]; exact h2
  · exact h u h0 (by omega)
theorem IVL_no {V W Z : VV} {T : Int → Int} {g n w t o : Int} (h : IVL V W T g n w t) (h5 : W 42 5 = 0) (ht : t ≤ 5) (hf : fr [43] (up W 42 4 o) Z) (hn : NT T g n w t) : IVL V Z T g n w (t + 1) := by
  obtain ⟨a, b, c, d, e, f⟩ := h
  have q : ∀ j, j ≠ 4 → Z 42 j = W 42 j := fun j hj => by rw [hf 42 j (by decide), up_n _ (by omega)]
  refine ⟨by omega, fr_t b (fr_t (fr_u fr_0 (by decide)) (fr_w hf (by decide))), by rw [q 1 (by decide)]; exact c, by rw [q 2 (by decide)]; exact d, by rw [q 3 (by decide)]; exact e, Or.inl ⟨by rw [q 5 (by decide)]; exact h5, NT_S ?_ hn⟩⟩
  rcases f with f | f
  · exact f.2
  · omega
theorem SHB_no {T : Int → Int} {g n : Int} {v o : Nat} (ho : o ≤ 31) (h : SHB T g n (g ^ o) v o 0) {p : Int} (h0 : 0 ≤ p) (h1 : p < o) : ¬ TEL T g n v o p := fun q => by
  have := (SHB_TEL h h0 (by omega)).mpr ⟨h1, q⟩
  rw [bt_0] at this; cases this
theorem SHB_least {T : Int → Int} {g n x : Int} {v o : Nat} (ho : o ≤ 31) (hr : r32 x) (h : SHB T g n (g ^ o) v o x) (hx : 0 ≤ x) (hn : x ≠ 0) : (0 ≤ leastB x ∧ leastB x < o) ∧ TEL T g n v o (leastB x) ∧ ∀ p, 0 ≤ p → p < leastB x → ¬ TEL T g n v o p := by
  obtain ⟨b, hb, hb2⟩ := (bnz32 hr).mp hn
  have ex : ∃ k : Nat, (k < 32 ∧ bt 32 x k = true) ∧ ∀ j, j < k → ¬ (j < 32 ∧ bt 32 x j = true) := by
    have : ∀ m : Nat, (∃ k : Nat, k < m ∧ k < 32 ∧ bt 32 x k = true) → ∃ k : Nat, (k < 32 ∧ bt 32 x k = true) ∧ ∀ j, j < k → ¬ (j < 32 ∧ bt 32 x j = true) := by
      intro m
      induction m with
      | zero => rintro ⟨k, hk, -⟩; omega
      | succ m ih =>
        rintro ⟨k, hk, h1, h2⟩
        by_cases e : ∃ j, j < k ∧ j < 32 ∧ bt 32 x j = true
        · obtain ⟨j, j1, j2, j3⟩ := e
          exact ih ⟨j, by omega, j2, j3⟩
        · exact ⟨k, ⟨h1, h2⟩, fun j hj q => e ⟨j, hj, q⟩⟩
    exact this (b + 1) ⟨b, by omega, hb, hb2⟩
  obtain ⟨k, ⟨k1, k2⟩, k3⟩ := ex
  have e : leastB x = k := leastB_of (by omega) (by rw [bt3264 hx k1]; exact k2) (fun j hj => by
    rw [bt3264 hx (by omega)]
    cases z : bt 32 x j with
    | false => rfl
    | true => exact absurd ⟨by omega, z⟩ (k3 j hj))
  have hk := (SHB_TEL (p := (k : Int)) h (by omega) (by omega)).mp (by rw [show ((k : Int)).toNat = k by omega]; exact k2)
  rw [e]
  refine ⟨⟨by omega, hk.1⟩, hk.2, fun p h0 h1 q => ?_⟩
  have := (SHB_TEL h h0 (by omega)).mpr ⟨by omega, q⟩
  exact k3 p.toNat (by omega) ⟨by omega, this⟩
theorem IVL_yes {V W Z : VV} {T : Int → Int} {g n w t x : Int} (h : IVL V W T g n w t) (h5 : W 42 5 = 0) (ht : t ≤ 5) (hw : 2 ≤ w ∧ w ≤ 3) (hf : fr [43] (up W 42 4 (t + w - 1)) Z) (hr : r32 x) (hS : SHB T g n (g ^ (t + w - 1).toNat) t.toNat (t + w - 1).toNat x) (hx : 0 ≤ x) (hn : x ≠ 0)
    (hO : OG Z T g n (g ^ (t + w - 1).toNat) t.toNat) (hp : g ^ (t + w - 1).toNat ≤ 50000) : IVL V (up (up Z 42 5 t) 42 6 (leastB x)) T g n w (t + 1) := by
  obtain ⟨a, b, c, d, e, f⟩ := h
  have q : ∀ j, j ≠ 4 → Z 42 j = W 42 j := fun j hj => by rw [hf 42 j (by decide), up_n _ (by omega)]
  have q4 : Z 42 4 = t + w - 1 := by rw [hf 42 4 (by decide), up_s]
  have fz : fr [42, 43] V Z := fr_t b (fr_t (fr_u fr_0 (by decide)) (fr_w hf (by decide)))
  obtain ⟨s1, s2, s3⟩ := SHB_least (by omega) hr hS hx hn
  have f' : ∀ u, 1 ≤ u → u < t → NT T g n w u := by
    rcases f with f | f
    · exact f.2
    · omega
  have e5 : (up (up Z 42 5 t) 42 6 (leastB x)) 42 5 = t := by rw [up_n _ (by omega), up_s]
  have e6 : (up (up Z 42 5 t) 42 6 (leastB x)) 42 6 = leastB x := up_s ..
  have e4 : (up (up Z 42 5 t) 42 6 (leastB x)) 42 4 = t + w - 1 := by rw [up_n _ (by omega), up_n _ (by omega), q4]
  refine ⟨by omega, fr_u (fr_u fz (by decide)) (by decide), by rw [up_n _ (by omega), up_n _ (by omega), q 1 (by decide)]; exact c, by rw [up_n _ (by omega), up_n _ (by omega), q 2 (by decide)]; exact d, by rw [up_n _ (by omega), up_n _ (by omega), q 3 (by decide)]; exact e, Or.inr ?_⟩
  rw [e5, e6, e4]
  refine ⟨by omega, by omega, Or.inr ⟨by omega, hp, ⟨s1.1, by omega⟩, s2, s3, f'⟩, rfl, fun c h0 h1 => ?_⟩
  rw [up_n _ (by omega), up_n _ (by omega)]
  exact hO c h0 h1
theorem IVL_end {V W : VV} {T : Int → Int} {g n w t : Int} (h : IVL V W T g n w t) (he : 5 < t ∨ W 42 5 ≠ 0) : IVP W T g n w := by
  obtain ⟨a, b, c, d, e, f⟩ := h
  refine ⟨d, e, ?_, fun q => ?_⟩
  · rcases f with f | f
    · exact Or.inl ⟨f.1, fun u h0 h1 => f.2 u h0 (by omega)⟩
    · exact f.2.2.1
  · rcases f with f | f
    · exact absurd f.1 q
    · exact f.2.2.2
theorem IVS.b {T : Int → Int} {g n w v s : Int} (hg : 2 ≤ g ∧ g ≤ 6) (h : IVS T g n w v s) (hv : v ≠ 0) : (1 ≤ v ∧ v ≤ 5) ∧ (0 ≤ s ∧ s < v + w - 1) ∧ (1 ≤ g ^ v.toNat ∧ g ^ v.toNat ≤ 7776) ∧ TEL T g n v.toNat (v + w - 1).toNat s := by
  rcases h with h | h
  · exact absurd h.1 hv
  · exact ⟨h.1, h.2.2.1, pw5 hg (by omega), h.2.2.2.1⟩
theorem decC_S {g r : Int} {k : Nat} (h : 0 ≤ r.tmod 10 ∧ r.tmod 10 < g) : decC g (k + 1) r = if decC g k (r.tdiv 10) = -1 then -1 else r.tmod 10 + g * decC g k (r.tdiv 10) := by
  show (if _ then _ else _) = _
  rw [if_neg (by omega)]
theorem decC_n {g r : Int} {k : Nat} (h : r.tmod 10 < 0 ∨ g ≤ r.tmod 10) : decC g (k + 1) r = -1 := by
  show (if _ then _ else _) = _
  rw [if_pos h]
/-- the word behind a cell that the inverse rule reads; what it says there -/
def wdB (V : VV) (k : Int) : Int := codeF (V 42 2) (fun j => V 30 ((k - V 42 6 + V 42 3 + j) % V 29 1)) (V 42 5).toNat
def bkF (V : VV) (c : Int) : Int := if V 43 c = -1 then -1 else dg (V 42 2) (V 43 c) (V 42 4 - 1 - V 42 6).toNat
theorem decC_st {z g w m c G2 : Int} (hz : z = -1 ∨ 0 ≤ z) (hm : 0 ≤ m) (hg : 0 ≤ g) (hG : G2 = w * g) : (if (if z = -1 then -1 else m + g * z) = -1 then -1 else c + w * (if z = -1 then -1 else m + g * z)) = if z = -1 then -1 else c + w * m + G2 * z := by
  by_cases e : z = -1
  · simp [e]
  · have h0 : 0 ≤ g * z := Int.mul_nonneg hg (by omega)
    simp only [if_neg e]
    rw [if_neg (by omega), hG, Int.mul_add, Int.mul_assoc, Int.add_assoc]

section RNG3
variable {X : Cx} {G : GS} {pc : Nat} {st : List MV} {V : VV}
theorem j_rngL3 {a b c : MV} {x : Int} (kk : r32 x → J X G pc [a, b, c, vI x] st V) : J X G pc [a, b, c, vI x] st V := fun h1 => kk (okIr (h1 _ (List.mem_of_getElem? (i := 3) rfl))) h1
end RNG3
set_option maxHeartbeats 4000000 in
theorem ok_X3_prepare {V : VV} (ho9 : RO V 15) (ht : TR V 15) (hpk : V 42 1 = V 15 7 → IVP V (V 16) (V 15 3) (V 15 5) (V 15 4)) : Ok NC yX3_prepare cX3_prepare 4 none 4 95 [vA 42, vA 15] V (pV (fun V' => V' 42 1 = V 15 7 ∧ IVP V' (V 16) (V 15 3) (V 15 5) (V 15 4) ∧ fr [42, 43] V V')) := by
  refine Ok.intro (by decide +kernel) (Nat.le_of_ble_eq_true rfl) (fun X G hX hG hR hoa hoV => ?_)
  show J X G 0 [vA 42, vA 15, vU, vU] [] V
  have hb9 := ho9.b
  refine j_al0 hX dX3_prepare_0 rfl ?_
  refine j_getI hX hG fl_X3_15 (Or.inl rfl) (by decide) dX3_prepare_1 ?_
  refine j_al1 hX dX3_prepare_4 rfl ?_
  refine j_getI hX hG fl_X3_19 (Or.inl rfl) (by decide) dX3_prepare_5 ?_
  refine j_icmp_ne (tgt := 12) hX dX3_prepare_8 (by decide) (fun h_8 => ?_) (fun h_8 => ?_)
  · skip
    refine j_al0 hX dX3_prepare_12 rfl ?_
    refine j_al1 hX dX3_prepare_13 rfl ?_
    refine j_getI hX hG fl_X3_19 (Or.inl rfl) (by decide) dX3_prepare_14 ?_
    refine j_putI hX hG fp_X3_15 rfl (by decide) dX3_prepare_17 ?_
    refine j_al0 hX dX3_prepare_20 rfl ?_
    refine j_al1 hX dX3_prepare_21 rfl ?_
    refine j_getI hX hG fl_X3_24 (Or.inl rfl) (by decide) dX3_prepare_22 ?_
    refine j_putI hX hG fp_X3_27 rfl (by decide) dX3_prepare_25 ?_
    refine j_al0 hX dX3_prepare_28 rfl ?_
    refine j_al1 hX dX3_prepare_29 rfl ?_
    refine j_getI hX hG fl_X3_28 (Or.inl rfl) (by decide) dX3_prepare_30 ?_
    refine j_eqS (st' := [vI (V 15 4), vA 42]) (by rw [up_n _ (by decide), up_n _ (by decide)]) ?_
    refine j_iconst hX dX3_prepare_33 ⟨by decide, by decide⟩ ?_
    refine j_isub hX dX3_prepare_34 (by omega) ?_
    refine j_putI hX hG fp_X3_31 rfl (by decide) dX3_prepare_35 ?_
    refine j_al0 hX dX3_prepare_38 rfl ?_
    refine j_iconst hX dX3_prepare_39 ⟨by decide, by decide⟩ ?_
    refine j_putI hX hG fp_X3_34 rfl (by decide) dX3_prepare_40 ?_
    refine j_iconst hX dX3_prepare_43 ⟨by decide, by decide⟩ ?_
    refine j_is2 hX dX3_prepare_44 rfl ?_
    have lp_45 : ∀ (f9 : Nat) (t : Int) (W : VV), (IVL V W (V 16) (V 15 3) (V 15 5) (V 15 4) t) → ((6 - t).toNat) < f9 → J X G 45 [vA 42, vA 15, vI t, vU] [] W := by
      intro f9
      induction f9 with
      | zero => intro t W _ hm; exact absurd hm (Nat.not_lt_zero _)
      | succ f9 ih_45 =>
        intro t W hI hm
        refine j_il2 hX dX3_prepare_45 ?_
        refine j_iconst hX dX3_prepare_46 ⟨by decide, by decide⟩ ?_
        refine j_icmp_gt (tgt := 120) hX dX3_prepare_47 (by decide) (fun h_47 => ?_) (fun h_47 => ?_)
        · skip
          exact j_ret hR dX3_prepare_120 ⟨hI.2.2.1, IVL_end hI (by first | exact Or.inl (by omega) | exact Or.inr h_54), hI.2.1⟩
        · skip
          have hb2 := hI.1
          have hsW := hI.2.1
          have q5 : W 15 5 = V 15 5 := hsW 15 5 (by decide)
          have q3 : W 15 3 = V 15 3 := hsW 15 3 (by decide)
          have q4 : W 15 4 = V 15 4 := hsW 15 4 (by decide)
          have q16 : W 16 = V 16 := funext fun b => hsW 16 b (by decide)
          have q2 : W 42 2 = V 15 3 := hI.2.2.2.1
          refine j_al0 hX dX3_prepare_50 rfl ?_
          refine j_getI hX hG fl_X3_34 (Or.inl rfl) (by decide) dX3_prepare_51 ?_
          refine j_if_ne (tgt := 120) hX dX3_prepare_54 (by decide) (fun h_54 => ?_) (fun h_54 => ?_)
          · skip
            exact j_ret hR dX3_prepare_120 ⟨hI.2.2.1, IVL_end hI (by first | exact Or.inl (by omega) | exact Or.inr h_54), hI.2.1⟩
          · skip
            have h5 : W 42 5 = 0 := h_54
            refine j_al0 hX dX3_prepare_57 rfl ?_
            refine j_il2 hX dX3_prepare_58 ?_
            refine j_al1 hX dX3_prepare_59 rfl ?_
            refine j_getI hX hG fl_X3_28 (Or.inl rfl) (by decide) dX3_prepare_60 ?_
            refine j_iadd hX dX3_prepare_63 (by rw [q4]; omega) ?_
            refine j_iconst hX dX3_prepare_64 ⟨by decide, by decide⟩ ?_
            refine j_eqS (st' := [vI 1, vI (t + V 15 4), vA 42]) (by rw [q4]) ?_
            refine j_isub hX dX3_prepare_65 (by omega) ?_
            refine j_putI hX hG fp_X3_35 rfl (by decide) dX3_prepare_66 ?_
            refine j_al0 hX dX3_prepare_69 rfl ?_
            refine j_getI hX hG fl_X3_27 (Or.inl rfl) (by decide) dX3_prepare_70 ?_
            refine j_al0 hX dX3_prepare_73 rfl ?_
            refine j_getI hX hG fl_X3_35 (Or.inl rfl) (by decide) dX3_prepare_74 ?_
            refine j_eqS (st' := [vI (t + V 15 4 - 1), vI (V 15 3)]) (by rw [up_s, up_n _ (by decide), q2]) ?_
            have hfu : fr [42] V V := fr_0
            refine j_pSI2 hX hG lk_X3_38 (ok_X11_power (by omega) (by omega)) (Nat.le_of_ble_eq_true rfl) (Nat.le_of_ble_eq_true rfl) (Nat.le_of_ble_eq_true rfl) rfl dX3_prepare_77 ?_
            have hp_77 : True := trivial
            refine j_ldc (x := 50000) hX dX3_prepare_80 lc_X3_42 ⟨by decide, by decide⟩ ?_
            refine j_icmp_le (tgt := 89) hX dX3_prepare_82 (by decide) (fun h_82 => ?_) (fun h_82 => ?_)
            · skip
              have r4 : (up W 42 4 (t + V 15 4 - 1)) 42 4 = t + V 15 4 - 1 := up_s ..
              have r2 : (up W 42 4 (t + V 15 4 - 1)) 42 2 = V 15 3 := by rw [up_n _ (by decide), q2]
              have r15 : ∀ b, (up W 42 4 (t + V 15 4 - 1)) 15 b = V 15 b := fun b => by rw [up_n _ (fun z => absurd z.1 (by decide))]; exact hsW 15 b (by decide)
              have r3 := r15 3
              have r5 := r15 5
              have r16 : (up W 42 4 (t + V 15 4 - 1)) 16 = V 16 := by rw [up_r _ (by decide)]; exact q16
              have roW : RO (up W 42 4 (t + V 15 4 - 1)) 15 := ho9.sm r15
              have trW : TR (up W 42 4 (t + V 15 4 - 1)) 15 := fun e h0 h1 => by rw [show (up W 42 4 (t + V 15 4 - 1)) (15 + 1) e = V (15 + 1) e from congrFun r16 e, r3]; exact ht e h0 (by rw [r5] at h1; exact h1)
              refine j_al0 hX dX3_prepare_89 rfl ?_
              refine j_al1 hX dX3_prepare_90 rfl ?_
              refine j_il2 hX dX3_prepare_91 ?_
              refine j_cVI2 (ci := 3) hX hG lk_X3_43 (ok_X3_commonShifts roW trW (by rw [r2, r3]) (by omega) (by rw [r4, r15 4]) (by rw [r4, r3]; omega)) (by decide) rfl (Nat.le_of_ble_eq_true rfl) (Nat.le_of_ble_eq_true rfl) (Nat.le_of_ble_eq_true rfl) rfl dX3_prepare_92 (fun x_92 V_92 h_92 => ?_)
              obtain ⟨sh_92, ge_92, og_92, f_92⟩ := h_92
              rw [r16, r3, r5, r4] at sh_92
              rw [r16, r3, r5, r4] at og_92
              refine j_is3 hX dX3_prepare_95 rfl ?_
              try refine j_rngL3 fun hr9 => ?_
              refine j_il3 hX dX3_prepare_96 ?_
              refine j_if_eq (tgt := 114) hX dX3_prepare_97 (by decide) (fun h_97 => ?_) (fun h_97 => ?_)
              · skip
                refine j_inc2 hX dX3_prepare_114 rfl (by omega) ?_
                refine j_goto (tgt := 45) hX dX3_prepare_117 (by decide) ?_
                refine j_fg3 ?_
                exact ih_45 _ _ (by first | (exfalso; exact h_97 rfl) | exact IVL_no hI h5 (by omega) fr_0 (fun q => absurd q (by omega)) | exact IVL_no hI h5 (by omega) f_92 (fun _ p h0 h1 => SHB_no (by omega) (by rw [h_97] at sh_92; exact sh_92) h0 (by omega)) | exact IVL_yes hI h5 (by omega) hb9.2.1 f_92 hr9 sh_92 ge_92 h_97 (og_92 h_97) (by omega)) (by have := hI.1; omega)
              · skip
                refine j_al0 hX dX3_prepare_100 rfl ?_
                refine j_il2 hX dX3_prepare_101 ?_
                refine j_putI hX hG fp_X3_34 rfl (by decide) dX3_prepare_102 ?_
                refine j_al0 hX dX3_prepare_105 rfl ?_
                refine j_il3 hX dX3_prepare_106 ?_
                refine j_i2l hX dX3_prepare_107 ?_
                refine j_pSI1 hX hG lk_X3_47 (ok_X11_leastOf ) (Nat.le_of_ble_eq_true rfl) (Nat.le_of_ble_eq_true rfl) (Nat.le_of_ble_eq_true rfl) rfl dX3_prepare_108 ?_
                refine j_putI hX hG fp_X3_51 rfl (by decide) dX3_prepare_111 ?_
                refine j_inc2 hX dX3_prepare_114 rfl (by omega) ?_
                refine j_goto (tgt := 45) hX dX3_prepare_117 (by decide) ?_
                refine j_fg3 ?_
                exact ih_45 _ _ (by first | (exfalso; exact h_97 rfl) | exact IVL_no hI h5 (by omega) fr_0 (fun q => absurd q (by omega)) | exact IVL_no hI h5 (by omega) f_92 (fun _ p h0 h1 => SHB_no (by omega) (by rw [h_97] at sh_92; exact sh_92) h0 (by omega)) | exact IVL_yes hI h5 (by omega) hb9.2.1 f_92 hr9 sh_92 ge_92 h_97 (og_92 h_97) (by omega)) (by have := hI.1; omega)
            · skip
              refine j_iconst hX dX3_prepare_85 ⟨by decide, by decide⟩ ?_
              refine j_goto (tgt := 95) hX dX3_prepare_86 (by decide) ?_
              refine j_is3 hX dX3_prepare_95 rfl ?_
              try refine j_rngL3 fun hr9 => ?_
              refine j_il3 hX dX3_prepare_96 ?_
              refine j_if_eq (tgt := 114) hX dX3_prepare_97 (by decide) (fun h_97 => ?_) (fun h_97 => ?_)
              · skip
                refine j_inc2 hX dX3_prepare_114 rfl (by omega) ?_
                refine j_goto (tgt := 45) hX dX3_prepare_117 (by decide) ?_
                refine j_fg3 ?_
                exact ih_45 _ _ (by first | (exfalso; exact h_97 rfl) | exact IVL_no hI h5 (by omega) fr_0 (fun q => absurd q (by omega)) | exact IVL_no hI h5 (by omega) f_92 (fun _ p h0 h1 => SHB_no (by omega) (by rw [h_97] at sh_92; exact sh_92) h0 (by omega)) | exact IVL_yes hI h5 (by omega) hb9.2.1 f_92 hr9 sh_92 ge_92 h_97 (og_92 h_97) (by omega)) (by have := hI.1; omega)
              · skip
                refine j_al0 hX dX3_prepare_100 rfl ?_
                refine j_il2 hX dX3_prepare_101 ?_
                refine j_putI hX hG fp_X3_34 rfl (by decide) dX3_prepare_102 ?_
                refine j_al0 hX dX3_prepare_105 rfl ?_
                refine j_il3 hX dX3_prepare_106 ?_
                refine j_i2l hX dX3_prepare_107 ?_
                refine j_pSI1 hX hG lk_X3_47 (ok_X11_leastOf ) (Nat.le_of_ble_eq_true rfl) (Nat.le_of_ble_eq_true rfl) (Nat.le_of_ble_eq_true rfl) rfl dX3_prepare_108 ?_
                refine j_putI hX hG fp_X3_51 rfl (by decide) dX3_prepare_111 ?_
                refine j_inc2 hX dX3_prepare_114 rfl (by omega) ?_
                refine j_goto (tgt := 45) hX dX3_prepare_117 (by decide) ?_
                refine j_fg3 ?_
                exact ih_45 _ _ (by first | (exfalso; exact h_97 rfl) | exact IVL_no hI h5 (by omega) fr_0 (fun q => absurd q (by omega)) | exact IVL_no hI h5 (by omega) f_92 (fun _ p h0 h1 => SHB_no (by omega) (by rw [h_97] at sh_92; exact sh_92) h0 (by omega)) | exact IVL_yes hI h5 (by omega) hb9.2.1 f_92 hr9 sh_92 ge_92 h_97 (og_92 h_97) (by omega)) (by have := hI.1; omega)
    exact lp_45 _ _ _ ⟨by decide, fr_u (fr_u (fr_u (fr_u fr_0 (by decide)) (by decide)) (by decide)) (by decide), by simp [up], by simp [up], by simp [up], Or.inl ⟨by simp [up], fun u h0 h1 => by omega⟩⟩ (Nat.lt_succ_self _)
  · skip
    exact j_ret hR dX3_prepare_11 ⟨by omega, hpk (by omega), fr_0⟩
set_option maxHeartbeats 4000000 in
theorem ok_X3_countWords {V : VV} (hg2 : 2 ≤ V 42 2 ∧ V 42 2 ≤ 6) (hw5 : 1 ≤ V 42 5 ∧ V 42 5 ≤ 5) : Ok NC yX3_countWords cX3_countWords 4 (some .int) 1 23 [vA 42] V (pI (fun x9 V' => x9 = cntI (fun c => V 43 c != -1) (V 42 2 ^ (V 42 5).toNat).toNat ∧ V' = V)) := by
  refine Ok.intro (by decide +kernel) (Nat.le_of_ble_eq_true rfl) (fun X G hX hG hR hoa hoV => ?_)
  show J X G 0 [vA 42, vU, vU, vU] [] V
  have hp5 := pw5 hg2 (k := (V 42 5).toNat) (by omega)
  refine j_iconst hX dX3_countWords_0 ⟨by decide, by decide⟩ ?_
  refine j_is1 hX dX3_countWords_1 rfl ?_
  refine j_al0 hX dX3_countWords_2 rfl ?_
  refine j_getI hX hG fl_X3_27 (Or.inl rfl) (by decide) dX3_countWords_3 ?_
  refine j_al0 hX dX3_countWords_6 rfl ?_
  refine j_getI hX hG fl_X3_34 (Or.inl rfl) (by decide) dX3_countWords_7 ?_
  refine j_pSI2 hX hG lk_X3_38 (ok_X11_power (by omega) (by omega)) (Nat.le_of_ble_eq_true rfl) (Nat.le_of_ble_eq_true rfl) (Nat.le_of_ble_eq_true rfl) rfl dX3_countWords_10 ?_
  refine j_is2 hX dX3_countWords_13 rfl ?_
  refine j_iconst hX dX3_countWords_14 ⟨by decide, by decide⟩ ?_
  refine j_is3 hX dX3_countWords_15 rfl ?_
  have lp_16 : ∀ (f9 : Nat) (c : Int), (0 ≤ c ∧ c ≤ V 42 2 ^ (V 42 5).toNat) → ((V 42 2 ^ (V 42 5).toNat - c).toNat) < f9 → J X G 16 [vA 42, vI (cntI (fun c => V 43 c != -1) c.toNat), vI (V 42 2 ^ (V 42 5).toNat), vI c] [] V := by
    intro f9
    induction f9 with
    | zero => intro c _ hm; exact absurd hm (Nat.not_lt_zero _)
    | succ f9 ih_16 =>
      intro c hc hm
      refine j_il3 hX dX3_countWords_16 ?_
      refine j_il2 hX dX3_countWords_17 ?_
      refine j_icmp_ge (tgt := 42) hX dX3_countWords_18 (by decide) (fun h_18 => ?_) (fun h_18 => ?_)
      · skip
        refine j_il1 hX dX3_countWords_42 ?_
        exact j_retI hR dX3_countWords_43 ⟨by rw [show c = V 42 2 ^ (V 42 5).toNat by omega], rfl⟩
      · skip
        have hcb := cntI_b (fun c => V 43 c != -1) c.toNat
        refine j_al0 hX dX3_countWords_21 rfl ?_
        refine j_getR (q := 43) hX hG fl_X3_9 rfl rfl (by decide) dX3_countWords_22 ?_
        refine j_il3 hX dX3_countWords_25 ?_
        refine j_pSI2 hX hG lk_X3_64 (ok_X11_at_in (n := 7776) (by decide) (by first | assumption | decide) (by omega)) (Nat.le_of_ble_eq_true rfl) (Nat.le_of_ble_eq_true rfl) (Nat.le_of_ble_eq_true rfl) rfl dX3_countWords_26 ?_
        refine j_iconst hX dX3_countWords_29 ⟨by decide, by decide⟩ ?_
        refine j_icmp_eq (tgt := 36) hX dX3_countWords_30 (by decide) (fun h_30 => ?_) (fun h_30 => ?_)
        · skip
          refine j_inc3 hX dX3_countWords_36 rfl (by omega) ?_
          refine j_goto (tgt := 16) hX dX3_countWords_39 (by decide) ?_
          refine j_eqL (ls' := [vA 42, vI (cntI (fun c => V 43 c != -1) (c + 1).toNat), vI (V 42 2 ^ (V 42 5).toNat), vI (c + 1)]) (by rw [cntI_S hc.1]; first | rw [if_pos (by simpa using h_30)] | rw [if_neg (by simpa using h_30), Int.add_zero]) ?_
          exact ih_16 _ (by omega) (by omega)
        · skip
          refine j_inc1 hX dX3_countWords_33 rfl (by omega) ?_
          refine j_inc3 hX dX3_countWords_36 rfl (by omega) ?_
          refine j_goto (tgt := 16) hX dX3_countWords_39 (by decide) ?_
          refine j_eqL (ls' := [vA 42, vI (cntI (fun c => V 43 c != -1) (c + 1).toNat), vI (V 42 2 ^ (V 42 5).toNat), vI (c + 1)]) (by rw [cntI_S hc.1]; first | rw [if_pos (by simpa using h_30)] | rw [if_neg (by simpa using h_30), Int.add_zero]) ?_
          exact ih_16 _ (by omega) (by omega)
  refine j_eqL (ls' := [vA 42, vI (cntI (fun c => V 43 c != -1) (0 : Int).toNat), vI (V 42 2 ^ (V 42 5).toNat), vI 0]) rfl ?_
  exact lp_16 _ _ ⟨by decide, by omega⟩ (Nat.lt_succ_self _)
set_option maxHeartbeats 4000000 in
theorem ok_X3_gives {V : VV} {c : Int} (hg2 : 2 ≤ V 42 2 ∧ V 42 2 ≤ 6) (hsh : 0 ≤ V 42 6 ∧ V 42 6 < V 42 4 ∧ V 42 4 ≤ 7) (hbk : ∀ c, 0 ≤ c → c < 7776 → V 43 c = -1 ∨ 0 ≤ V 43 c) (hc : 0 ≤ c ∧ c < 7776) : Ok NC yX3_gives cX3_gives 3 (some .int) 1 23 [vA 42, vI c] V (pI (fun x9 V' => x9 = bkF V c ∧ V' = V)) := by
  refine Ok.intro (by decide +kernel) (Nat.le_of_ble_eq_true rfl) (fun X G hX hG hR hoa hoV => ?_)
  show J X G 0 [vA 42, vI c, vU] [] V
  refine j_al0 hX dX3_gives_0 rfl ?_
  refine j_getR (q := 43) hX hG fl_X3_9 rfl rfl (by decide) dX3_gives_1 ?_
  refine j_il1 hX dX3_gives_4 ?_
  refine j_pSI2 hX hG lk_X3_64 (ok_X11_at_in (n := 7776) (by decide) (by first | assumption | decide) hc) (Nat.le_of_ble_eq_true rfl) (Nat.le_of_ble_eq_true rfl) (Nat.le_of_ble_eq_true rfl) rfl dX3_gives_5 ?_
  refine j_is2 hX dX3_gives_8 rfl ?_
  refine j_il2 hX dX3_gives_9 ?_
  refine j_iconst hX dX3_gives_10 ⟨by decide, by decide⟩ ?_
  refine j_icmp_ne (tgt := 16) hX dX3_gives_11 (by decide) (fun h_11 => ?_) (fun h_11 => ?_)
  · skip
    have h0 : 0 ≤ V 43 c := (hbk c hc.1 hc.2).elim (fun q => absurd q h_11) id
    have hp := pw_pos hg2.1 (V 42 4 - 1 - V 42 6).toNat
    have hq : 0 ≤ V 43 c / V 42 2 ^ (V 42 4 - 1 - V 42 6).toNat := Int.ediv_nonneg h0 (by omega)
    refine j_il2 hX dX3_gives_16 ?_
    refine j_al0 hX dX3_gives_17 rfl ?_
    refine j_getI hX hG fl_X3_27 (Or.inl rfl) (by decide) dX3_gives_18 ?_
    refine j_al0 hX dX3_gives_21 rfl ?_
    refine j_getI hX hG fl_X3_35 (Or.inl rfl) (by decide) dX3_gives_22 ?_
    refine j_iconst hX dX3_gives_25 ⟨by decide, by decide⟩ ?_
    refine j_isub hX dX3_gives_26 (by omega) ?_
    refine j_al0 hX dX3_gives_27 rfl ?_
    refine j_getI hX hG fl_X3_51 (Or.inl rfl) (by decide) dX3_gives_28 ?_
    refine j_isub hX dX3_gives_31 (by omega) ?_
    refine j_pSI2 hX hG lk_X3_38 (ok_X11_power (by omega) (by omega)) (Nat.le_of_ble_eq_true rfl) (Nat.le_of_ble_eq_true rfl) (Nat.le_of_ble_eq_true rfl) rfl dX3_gives_32 ?_
    refine j_pSI2 hX hG lk_X3_85 (ok_X11_quotient_in h0 hp) (Nat.le_of_ble_eq_true rfl) (Nat.le_of_ble_eq_true rfl) (Nat.le_of_ble_eq_true rfl) rfl dX3_gives_35 ?_
    refine j_al0 hX dX3_gives_38 rfl ?_
    refine j_getI hX hG fl_X3_27 (Or.inl rfl) (by decide) dX3_gives_39 ?_
    refine j_pSI2 hX hG lk_X3_78 (ok_X11_remainder_in hq (by omega)) (Nat.le_of_ble_eq_true rfl) (Nat.le_of_ble_eq_true rfl) (Nat.le_of_ble_eq_true rfl) rfl dX3_gives_42 ?_
    exact j_retI hR dX3_gives_45 ⟨by unfold bkF; rw [if_neg h_11]; rfl, rfl⟩
  · skip
    refine j_iconst hX dX3_gives_14 ⟨by decide, by decide⟩ ?_
    exact j_retI hR dX3_gives_15 ⟨by unfold bkF; rw [if_pos h_11], rfl⟩
set_option maxHeartbeats 4000000 in
theorem ok_X3_codeOfDecimal {V : VV} {d : Int} (hg2 : 2 ≤ V 42 2 ∧ V 42 2 ≤ 6) (hw5 : 1 ≤ V 42 5 ∧ V 42 5 ≤ 5) : Ok NC yX3_codeOfDecimal cX3_codeOfDecimal 7 (some .int) 0 0 [vA 42, vI d] V (pI (fun x9 V' => x9 = decC (V 42 2) (V 42 5).toNat d ∧ V' = V)) := by
  refine Ok.intro (by decide +kernel) (Nat.le_of_ble_eq_true rfl) (fun X G hX hG hR hoa hoV => ?_)
  show J X G 0 [vA 42, vI d, vU, vU, vU, vU, vU] [] V
  refine j_iconst hX dX3_codeOfDecimal_0 ⟨by decide, by decide⟩ ?_
  refine j_is2 hX dX3_codeOfDecimal_1 rfl ?_
  refine j_iconst hX dX3_codeOfDecimal_2 ⟨by decide, by decide⟩ ?_
  refine j_is3 hX dX3_codeOfDecimal_3 rfl ?_
  refine j_il1 hX dX3_codeOfDecimal_4 ?_
  refine j_is4 hX dX3_codeOfDecimal_5 rfl ?_
  refine j_iconst hX dX3_codeOfDecimal_7 ⟨by decide, by decide⟩ ?_
  refine j_is5 hX dX3_codeOfDecimal_8 rfl ?_
  have lp_10 : ∀ (f9 : Nat) (c r p : Int), (0 ≤ p ∧ p ≤ V 42 5) → (0 ≤ c ∧ c < V 42 2 ^ p.toNat) → (decC (V 42 2) (V 42 5).toNat d = if decC (V 42 2) (V 42 5 - p).toNat r = -1 then -1 else c + V 42 2 ^ p.toNat * decC (V 42 2) (V 42 5 - p).toNat r) → ((V 42 5 - p).toNat) < f9 → J X G 10 [vA 42, vI d, vI c, vI (V 42 2 ^ p.toNat), vI r, vI p, vU] [] V := by
    intro f9
    induction f9 with
    | zero => intro c r p _ _ _ hm; exact absurd hm (Nat.not_lt_zero _)
    | succ f9 ih_10 =>
      intro c r p hp hc hd hm
      refine j_il5 hX dX3_codeOfDecimal_10 ?_
      refine j_al0 hX dX3_codeOfDecimal_12 rfl ?_
      refine j_getI hX hG fl_X3_34 (Or.inl rfl) (by decide) dX3_codeOfDecimal_13 ?_
      refine j_icmp_ge (tgt := 69) hX dX3_codeOfDecimal_16 (by decide) (fun h_16 => ?_) (fun h_16 => ?_)
      · skip
        refine j_il4 hX dX3_codeOfDecimal_69 ?_
        refine j_if_ne (tgt := 78) hX dX3_codeOfDecimal_71 (by decide) (fun h_71 => ?_) (fun h_71 => ?_)
        · skip
          refine j_iconst hX dX3_codeOfDecimal_78 ⟨by decide, by decide⟩ ?_
          exact j_retI hR dX3_codeOfDecimal_79 ⟨by rw [hd, show (V 42 5 - p).toNat = 0 by omega]; first | (simp [decC, h_71]; done) | (show -1 = _; rw [show decC (V 42 2) 0 r = -1 by simp [decC, h_71]]; rfl), rfl⟩
        · skip
          refine j_il2 hX dX3_codeOfDecimal_74 ?_
          refine j_goto (tgt := 79) hX dX3_codeOfDecimal_75 (by decide) ?_
          exact j_retI hR dX3_codeOfDecimal_79 ⟨by rw [hd, show (V 42 5 - p).toNat = 0 by omega]; first | (simp [decC, h_71]; done) | (show -1 = _; rw [show decC (V 42 2) 0 r = -1 by simp [decC, h_71]]; rfl), rfl⟩
      · skip
        have hk9 : (V 42 5 - p).toNat = (V 42 5 - p - 1).toNat + 1 := by omega
        refine j_il4 hX dX3_codeOfDecimal_19 ?_
        refine j_bipush hX dX3_codeOfDecimal_21 (by decide) ⟨by decide, by decide⟩ ?_
        refine j_iremT hX dX3_codeOfDecimal_23 (by omega) ?_
        refine j_is6 hX dX3_codeOfDecimal_24 rfl ?_
        have ht9 := (tm_em r (b := 10) (by decide)).2.2
        refine j_il6 hX dX3_codeOfDecimal_26 ?_
        refine j_if_lt (tgt := 40) hX dX3_codeOfDecimal_28 (by decide) (fun h_28 => ?_) (fun h_28 => ?_)
        · skip
          refine j_iconst hX dX3_codeOfDecimal_40 ⟨by decide, by decide⟩ ?_
          exact j_retI hR dX3_codeOfDecimal_41 ⟨by rw [hd, hk9, decC_n (by omega)]; rfl, rfl⟩
        · skip
          refine j_il6 hX dX3_codeOfDecimal_31 ?_
          refine j_al0 hX dX3_codeOfDecimal_33 rfl ?_
          refine j_getI hX hG fl_X3_27 (Or.inl rfl) (by decide) dX3_codeOfDecimal_34 ?_
          refine j_icmp_lt (tgt := 42) hX dX3_codeOfDecimal_37 (by decide) (fun h_37 => ?_) (fun h_37 => ?_)
          · skip
            have p1 := pw5 hg2 (k := p.toNat) (by omega)
            have p2 := pw5 hg2 (k := (p + 1).toNat) (by omega)
            rw [pwS _ hp.1] at p2
            have q0 : 0 ≤ V 42 2 ^ p.toNat * r.tmod 10 := Int.mul_nonneg (by omega) (by omega)
            have q1 : V 42 2 ^ p.toNat * (r.tmod 10 + 1) ≤ V 42 2 ^ p.toNat * V 42 2 := Int.mul_le_mul_of_nonneg_left (by omega) (by omega)
            rw [Int.mul_add, Int.mul_one] at q1
            refine j_il2 hX dX3_codeOfDecimal_42 ?_
            refine j_il3 hX dX3_codeOfDecimal_43 ?_
            refine j_il6 hX dX3_codeOfDecimal_44 ?_
            refine j_imul hX dX3_codeOfDecimal_46 (by omega) ?_
            refine j_iadd hX dX3_codeOfDecimal_47 (by omega) ?_
            refine j_is2 hX dX3_codeOfDecimal_48 rfl ?_
            refine j_il3 hX dX3_codeOfDecimal_49 ?_
            refine j_al0 hX dX3_codeOfDecimal_50 rfl ?_
            refine j_getI hX hG fl_X3_27 (Or.inl rfl) (by decide) dX3_codeOfDecimal_51 ?_
            refine j_imul hX dX3_codeOfDecimal_54 (by omega) ?_
            refine j_is3 hX dX3_codeOfDecimal_55 rfl ?_
            refine j_il4 hX dX3_codeOfDecimal_56 ?_
            refine j_bipush hX dX3_codeOfDecimal_58 (by decide) ⟨by decide, by decide⟩ ?_
            refine j_idivT hX dX3_codeOfDecimal_60 (by omega) ?_
            refine j_is4 hX dX3_codeOfDecimal_61 rfl ?_
            refine j_inc5 hX dX3_codeOfDecimal_63 rfl (by omega) ?_
            refine j_goto (tgt := 10) hX dX3_codeOfDecimal_66 (by decide) ?_
            refine j_fg6 ?_
            refine j_eqL (ls' := [vA 42, vI d, vI (c + V 42 2 ^ p.toNat * r.tmod 10), vI (V 42 2 ^ (p + 1).toNat), vI (r.tdiv 10), vI (p + 1), vU]) (by rw [pwS _ hp.1]) ?_
            exact ih_10 _ _ _ (by omega) ⟨by omega, by rw [pwS _ hp.1]; omega⟩ (by rw [hd, hk9, decC_S ⟨by omega, by omega⟩, show (V 42 5 - (p + 1)).toNat = (V 42 5 - p - 1).toNat by omega]; have hz := decC_b (g := V 42 2) (by omega) (V 42 5 - p - 1).toNat (r.tdiv 10); exact decC_st (by omega) (by omega) (by omega) (pwS _ hp.1)) (by omega)
          · skip
            refine j_iconst hX dX3_codeOfDecimal_40 ⟨by decide, by decide⟩ ?_
            exact j_retI hR dX3_codeOfDecimal_41 ⟨by rw [hd, hk9, decC_n (by omega)]; rfl, rfl⟩
  refine j_eqL (ls' := [vA 42, vI d, vI 0, vI (V 42 2 ^ (0 : Int).toNat), vI d, vI 0, vU]) (by simp) ?_
  exact lp_10 _ _ _ _ (by omega) ⟨by decide, by simp⟩ (by rw [Int.sub_zero]; split <;> simp_all) (Nat.lt_succ_self _)
set_option maxHeartbeats 4000000 in
theorem ok_X3_codeAround {V : VV} {f : Int} (hg2 : 2 ≤ V 42 2 ∧ V 42 2 ≤ 6) (hw5 : 1 ≤ V 42 5 ∧ V 42 5 ≤ 5) (hn : 1 ≤ V 29 1 ∧ V 29 1 ≤ 16) (hQ : ∀ k, 0 ≤ k → k < V 29 1 → 0 ≤ V 30 k ∧ V 30 k < V 42 2) (hf : -100 ≤ f ∧ f ≤ 100) : Ok NC yX3_codeAround cX3_codeAround 5 (some .int) 3 64 [vA 42, vA 29, vI f] V (pI (fun x9 V' => x9 = codeF (V 42 2) (fun j => V 30 ((f + j) % V 29 1)) (V 42 5).toNat ∧ V' = V)) := by
  refine Ok.intro (by decide +kernel) (Nat.le_of_ble_eq_true rfl) (fun X G hX hG hR hoa hoV => ?_)
  show J X G 0 [vA 42, vA 29, vI f, vU, vU] [] V
  have hm9 : ∀ z : Int, 0 ≤ V 30 (z % V 29 1) ∧ V 30 (z % V 29 1) < V 42 2 := fun z => hQ _ (md_b z hn.1).1 (md_b z hn.1).2
  refine j_iconst hX dX3_codeAround_0 ⟨by decide, by decide⟩ ?_
  refine j_is3 hX dX3_codeAround_1 rfl ?_
  refine j_iconst hX dX3_codeAround_2 ⟨by decide, by decide⟩ ?_
  refine j_is4 hX dX3_codeAround_3 rfl ?_
  have lp_5 : ∀ (f9 : Nat) (p : Int), (0 ≤ p ∧ p ≤ V 42 5) → ((V 42 5 - p).toNat) < f9 → J X G 5 [vA 42, vA 29, vI f, vI (codeF (V 42 2) (fun j => V 30 ((f + j) % V 29 1)) p.toNat), vI p] [] V := by
    intro f9
    induction f9 with
    | zero => intro p _ hm; exact absurd hm (Nat.not_lt_zero _)
    | succ f9 ih_5 =>
      intro p hp hm
      refine j_il4 hX dX3_codeAround_5 ?_
      refine j_al0 hX dX3_codeAround_7 rfl ?_
      refine j_getI hX hG fl_X3_34 (Or.inl rfl) (by decide) dX3_codeAround_8 ?_
      refine j_icmp_ge (tgt := 36) hX dX3_codeAround_11 (by decide) (fun h_11 => ?_) (fun h_11 => ?_)
      · skip
        refine j_il3 hX dX3_codeAround_36 ?_
        exact j_retI hR dX3_codeAround_37 ⟨by rw [show p = V 42 5 by omega], rfl⟩
      · skip
        have hc9 := codeF_b (b := V 42 2) (R := fun j => V 30 ((f + j) % V 29 1)) (by omega) p.toNat (fun k _ _ => hm9 _)
        have hc8 := codeF_b (b := V 42 2) (R := fun j => V 30 ((f + j) % V 29 1)) (by omega) (p + 1).toNat (fun k _ _ => hm9 _)
        have p1 := pw5 hg2 (k := p.toNat) (by omega)
        have p2 := pw5 hg2 (k := (p + 1).toNat) (by omega)
        rw [codeF_S hp.1] at hc8
        have hm8 := hm9 (f + p)
        have q0 : 0 ≤ codeF (V 42 2) (fun j => V 30 ((f + j) % V 29 1)) p.toNat * V 42 2 := Int.mul_nonneg hc9.1 (by omega)
        refine j_il3 hX dX3_codeAround_14 ?_
        refine j_al0 hX dX3_codeAround_15 rfl ?_
        refine j_getI hX hG fl_X3_27 (Or.inl rfl) (by decide) dX3_codeAround_16 ?_
        refine j_imul hX dX3_codeAround_19 (by omega) ?_
        refine j_al1 hX dX3_codeAround_20 rfl ?_
        refine j_il2 hX dX3_codeAround_21 ?_
        refine j_il4 hX dX3_codeAround_22 ?_
        refine j_iadd hX dX3_codeAround_24 (by omega) ?_
        refine j_pVI1 (ci := 7) hX hG lk_X3_102 (ok_X7_stateAround (by decide) hn) (by decide) rfl (Nat.le_of_ble_eq_true rfl) (Nat.le_of_ble_eq_true rfl) (Nat.le_of_ble_eq_true rfl) rfl dX3_codeAround_25 ?_
        try dsimp only [Int.reduceAdd]
        refine j_iadd hX dX3_codeAround_28 (by omega) ?_
        refine j_is3 hX dX3_codeAround_29 rfl ?_
        refine j_inc4 hX dX3_codeAround_30 rfl (by omega) ?_
        refine j_goto (tgt := 5) hX dX3_codeAround_33 (by decide) ?_
        refine j_eqL (ls' := [vA 42, vA 29, vI f, vI (codeF (V 42 2) (fun j => V 30 ((f + j) % V 29 1)) (p + 1).toNat), vI (p + 1)]) (by rw [codeF_S hp.1]) ?_
        exact ih_5 _ (by omega) (by omega)
  refine j_eqL (ls' := [vA 42, vA 29, vI f, vI (codeF (V 42 2) (fun j => V 30 ((f + j) % V 29 1)) (0 : Int).toNat), vI 0]) rfl ?_
  exact lp_5 _ _ (by omega) (Nat.lt_succ_self _)
set_option maxHeartbeats 4000000 in
theorem ok_X3_stepBack {V : VV} (hg2 : 2 ≤ V 42 2 ∧ V 42 2 ≤ 6) (hw5 : 1 ≤ V 42 5 ∧ V 42 5 ≤ 5) (hsh : 0 ≤ V 42 6 ∧ V 42 6 < V 42 4 ∧ V 42 4 ≤ 7) (hbk : ∀ c, 0 ≤ c → c < 7776 → V 43 c = -1 ∨ 0 ≤ V 43 c) (h3 : 0 ≤ V 42 3 ∧ V 42 3 ≤ 1) (hn : 1 ≤ V 29 1 ∧ V 29 1 ≤ 16) (hQ : ∀ k, 0 ≤ k → k < V 29 1 → 0 ≤ V 30 k ∧ V 30 k < V 42 2) : Ok NC yX3_stepBack cX3_stepBack 5 (some .boolean) 4 88 [vA 42, vA 29, vA 31] V (pI (fun x9 V' => ((x9 = 1 ∧ ∀ k, 0 ≤ k → k < V 29 1 → bkF V (wdB V k) ≠ -1 ∧ V' 32 k = bkF V (wdB V k)) ∨ (x9 = 0 ∧ ∃ k, 0 ≤ k ∧ k < V 29 1 ∧ bkF V (wdB V k) = -1)) ∧ V' 31 1 = V 29 1 ∧ fr [31, 32] V V')) := by
  refine Ok.intro (by decide +kernel) (Nat.le_of_ble_eq_true rfl) (fun X G hX hG hR hoa hoV => ?_)
  show J X G 0 [vA 42, vA 29, vA 31, vU, vU] [] V
  have hm9 : ∀ z : Int, 0 ≤ V 30 (z % V 29 1) ∧ V 30 (z % V 29 1) < V 42 2 := fun z => hQ _ (md_b z hn.1).1 (md_b z hn.1).2
  refine j_al2 hX dX3_stepBack_0 rfl ?_
  refine j_al1 hX dX3_stepBack_1 rfl ?_
  refine j_getI hX hG fl_X3_88 (Or.inl rfl) (by decide) dX3_stepBack_2 ?_
  refine j_putI hX hG fp_X3_88 rfl (by decide) dX3_stepBack_5 ?_
  refine j_iconst hX dX3_stepBack_8 ⟨by decide, by decide⟩ ?_
  refine j_is3 hX dX3_stepBack_9 rfl ?_
  have lp_10 : ∀ (f9 : Nat) (k : Int) (W : VV), (0 ≤ k ∧ k ≤ V 29 1) → (fr [31, 32] V W) → (W 31 1 = V 29 1) → (∀ j, 0 ≤ j → j < k → bkF V (wdB V j) ≠ -1 ∧ W 32 j = bkF V (wdB V j)) → ((V 29 1 - k).toNat) < f9 → J X G 10 [vA 42, vA 29, vA 31, vI k, vU] [] W := by
    intro f9
    induction f9 with
    | zero => intro k W _ _ _ _ hm; exact absurd hm (Nat.not_lt_zero _)
    | succ f9 ih_10 =>
      intro k W hk hs hl hT hm
      refine j_il3 hX dX3_stepBack_10 ?_
      refine j_al1 hX dX3_stepBack_11 rfl ?_
      refine j_getI hX hG fl_X3_88 (Or.inl rfl) (by decide) dX3_stepBack_12 ?_
      refine j_icmp_ge (tgt := 61) hX dX3_stepBack_15 (by decide) (fun h_15 => ?_) (fun h_15 => ?_)
      · skip
        refine j_iconst hX dX3_stepBack_61 ⟨by decide, by decide⟩ ?_
        exact j_retZ hR dX3_stepBack_62 (by omega) ⟨Or.inl ⟨rfl, fun j h0 h1 => hT j h0 (by have := hs 29 1 (by decide); omega)⟩, hl, hs⟩
      · skip
        have q42 : ∀ b, W 42 b = V 42 b := fun b => hs 42 b (by decide)
        have q43 : ∀ b, W 43 b = V 43 b := fun b => hs 43 b (by decide)
        have q30 : ∀ b, W 30 b = V 30 b := fun b => hs 30 b (by decide)
        have q29 : W 29 1 = V 29 1 := hs 29 1 (by decide)
        have ebk : ∀ c, bkF W c = bkF V c := fun c => by unfold bkF; rw [q43, q42, q42, q42]
        have hwb := codeF_b (b := V 42 2) (R := fun j => V 30 ((k - V 42 6 + V 42 3 + j) % V 29 1)) (by omega) (V 42 5).toNat (fun k _ _ => hm9 _)
        have p1 := pw5 hg2 (k := (V 42 5).toNat) (by omega)
        refine j_al0 hX dX3_stepBack_18 rfl ?_
        refine j_al0 hX dX3_stepBack_19 rfl ?_
        refine j_al1 hX dX3_stepBack_20 rfl ?_
        refine j_il3 hX dX3_stepBack_21 ?_
        refine j_al0 hX dX3_stepBack_22 rfl ?_
        refine j_getI hX hG fl_X3_51 (Or.inl rfl) (by decide) dX3_stepBack_23 ?_
        refine j_isub hX dX3_stepBack_26 (by rw [q42]; omega) ?_
        refine j_al0 hX dX3_stepBack_27 rfl ?_
        refine j_getI hX hG fl_X3_31 (Or.inl rfl) (by decide) dX3_stepBack_28 ?_
        refine j_iadd hX dX3_stepBack_31 (by rw [q42, q42]; omega) ?_
        refine j_pVI2 (ci := 3) hX hG lk_X3_93 (ok_X3_codeAround (by rw [q42]; exact hg2) (by rw [q42]; exact hw5) (by rw [q29]; exact hn) (fun j h0 h1 => by rw [q30, q42]; exact hQ j h0 (by rw [q29] at h1; exact h1)) (by rw [q42, q42]; omega)) (by decide) rfl (Nat.le_of_ble_eq_true rfl) (Nat.le_of_ble_eq_true rfl) (Nat.le_of_ble_eq_true rfl) rfl dX3_stepBack_32 ?_
        refine j_eqS (st' := [vI (wdB V k), vA 42]) (by simp only [q42, q30, q29]; rfl) ?_
        refine j_pVI1 (ci := 3) hX hG lk_X3_97 (ok_X3_gives (by rw [q42]; exact hg2) (by rw [q42, q42]; exact hsh) (fun c h0 h1 => by rw [q43]; exact hbk c h0 h1) ⟨hwb.1, Int.lt_of_lt_of_le hwb.2 p1.2⟩) (by decide) rfl (Nat.le_of_ble_eq_true rfl) (Nat.le_of_ble_eq_true rfl) (Nat.le_of_ble_eq_true rfl) rfl dX3_stepBack_35 ?_
        refine j_eqS (st' := [vI (bkF V (wdB V k))]) (by rw [ebk]) ?_
        refine j_is4 hX dX3_stepBack_38 rfl ?_
        refine j_il4 hX dX3_stepBack_40 ?_
        refine j_iconst hX dX3_stepBack_42 ⟨by decide, by decide⟩ ?_
        refine j_icmp_ne (tgt := 48) hX dX3_stepBack_43 (by decide) (fun h_43 => ?_) (fun h_43 => ?_)
        · skip
          refine j_al2 hX dX3_stepBack_48 rfl ?_
          refine j_il3 hX dX3_stepBack_49 ?_
          refine j_il4 hX dX3_stepBack_50 ?_
          refine j_cVV2 (ci := 7) hX hG lk_X3_98 (ok_X7_setTo (by decide) (by omega)) (by decide) rfl (Nat.le_of_ble_eq_true rfl) (Nat.le_of_ble_eq_true rfl) (Nat.le_of_ble_eq_true rfl) rfl dX3_stepBack_52 (fun V_52 h_52 => ?_)
          subst h_52
          try dsimp only [Int.reduceAdd]
          refine j_inc3 hX dX3_stepBack_55 rfl (by omega) ?_
          refine j_goto (tgt := 10) hX dX3_stepBack_58 (by decide) ?_
          refine j_fg4 ?_
          exact ih_10 _ _ (by omega) (fr_u hs (by decide)) (by rw [up_n _ (by omega)]; exact hl) (lt_stepI (fun j h0 h1 => by rw [up_n _ (by omega)]; exact hT j h0 h1) ⟨h_43, up_s ..⟩) (by omega)
        · skip
          refine j_iconst hX dX3_stepBack_46 ⟨by decide, by decide⟩ ?_
          exact j_retZ hR dX3_stepBack_47 (by omega) ⟨Or.inr ⟨rfl, k, hk.1, by omega, h_43⟩, hl, hs⟩
  exact lp_10 _ _ _ (by omega) (fr_u fr_0 (by decide)) (up_s ..) (fun j h0 h1 => by omega) (Nat.lt_succ_self _)
