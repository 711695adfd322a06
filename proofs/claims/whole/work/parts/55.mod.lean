theorem tWd_b {V : VV} {q : Nat} {d e : Int} (h : MG V q) (ho : MO V) (hd : 0 ≤ d ∧ d < V 55 3) (he : 0 ≤ e ∧ e < V 55 3) : 0 ≤ tWd q (gO q) (V 55 2) d e ∧ tWd q (gO q) (V 55 2) d e < 216 := by
  have hq := h.1
  have d9 := tW_b h ho hd
  have e9 := tW_b h ho he
  have m0 := gM_lt hq d9.1 e9.1
  have m1 := gM_lt hq d9.2.1 e9.2.1
  have hb := ho.b
  have hg := h.2.1
  unfold tWd
  by_cases z : V 55 2 = 2
  · rw [if_pos z]
    have := ho.w (a := gM q (d / gO q % gO q) (e / gO q % gO q)) (b := gM q (d % gO q) (e % gO q)) (c := 0) (by omega)
    rw [if_pos z, hg] at this; exact this
  · rw [if_neg z]
    have m2 := gM_lt hq (d9.2.2 z) (e9.2.2 z)
    have := ho.w (a := gM q (d / gO q / gO q) (e / gO q / gO q)) (b := gM q (d / gO q % gO q) (e / gO q % gO q)) (c := gM q (d % gO q) (e % gO q)) (by omega)
    rw [if_neg z, hg] at this; exact this
def szN (s i : Nat) : Nat := ((List.range i).filter (fun b => s.testBit b)).length
theorem szN_S (s i : Nat) : szN s (i + 1) = szN s i + if s.testBit i = true then 1 else 0 := by
  unfold szN
  rw [List.range_succ, List.filter_append, List.length_append]
  congr 1
  by_cases z : s.testBit i = true
  · rw [if_pos z]; simp only [List.filter, z]; rfl
  · rw [if_neg z]; simp only [List.filter, z]; rfl
theorem sz_c {s : Nat} {i : Int} (hi : 0 ≤ i) : (szN s i.toNat : Int) + (if s.testBit i.toNat = true then 1 else 0) = szN s (i + 1).toNat := by
  rw [show (i + 1).toNat = i.toNat + 1 by omega, szN_S]
  split <;> push_cast <;> rfl
theorem sz_k {s : Nat} {i : Int} (hi : 0 ≤ i) : (s : Int) / 2 ^ i.toNat / 2 ^ (1 : Int).toNat = (s : Int) / 2 ^ (i + 1).toNat := by
  rw [show (i + 1).toNat = i.toNat + 1 by omega, Int.pow_succ, Int.ediv_ediv_of_nonneg (Int.le_of_lt (Int.pow_pos (by decide)))]
  rfl
theorem sz_lt {s : Nat} {i : Int} (hs : s < 64) (hi : 0 ≤ i ∧ i ≤ 6) (h : ¬ (s : Int) / 2 ^ i.toNat ≤ 0) : i + 1 ≤ 6 := by
  refine Classical.byContradiction fun n => h ?_
  rw [show i.toNat = 6 by omega]
  show (s : Int) / 64 ≤ 0
  omega
theorem sz_end {s : Nat} {i : Int} (hs : s < 64) (hi : 0 ≤ i ∧ i ≤ 6) (h : (s : Int) / 2 ^ i.toNat ≤ 0) : szN s i.toNat = szN s 6 := by
  have key : ∀ s, s < 64 → ∀ i, i < 7 → s / 2 ^ i = 0 → szN s i = szN s 6 := by decide +kernel
  refine key s hs i.toNat (by omega) ?_
  have e : ((s / 2 ^ i.toNat : Nat) : Int) = (s : Int) / 2 ^ i.toNat := by push_cast; rfl
  rw [← e] at h
  exact Nat.le_zero.mp (Int.ofNat_le.mp h)
theorem pw64 {g : Int} (hg : 2 ≤ g ∧ g ≤ 6) : 2 ^ g.toNat ≤ 64 := by
  have h : 2 ^ g.toNat ≤ 2 ^ 6 := Nat.pow_le_pow_right (by decide) (by omega)
  exact h
theorem sz_all : ∀ g, g < 7 → ∀ s, s < 2 ^ g → (szN s 6 < g ↔ s ≠ 2 ^ g - 1) := by decide +kernel
theorem pwI {g : Nat} : (2 : Int) ^ g - 1 = ((2 ^ g - 1 : Nat) : Int) := by
  have := Nat.one_le_two_pow (n := g)
  have e : ((2 ^ g : Nat) : Int) = 2 ^ g := by push_cast; rfl
  rw [← e]; omega
theorem sz_full {g : Int} {a : Nat} (hg : 2 ≤ g ∧ g ≤ 6) (ha : a < 2 ^ g.toNat) (h : ¬ (szN a 6 : Int) < g) : (a : Int) = 2 ^ g.toNat - 1 := by
  have := (sz_all g.toNat (by omega) a ha)
  rw [pwI]
  have h2 : ¬ a ≠ 2 ^ g.toNat - 1 := fun z => by have := this.mpr z; omega
  omega
theorem sz_not {g : Int} {a : Nat} (hg : 2 ≤ g ∧ g ≤ 6) (ha : a < 2 ^ g.toNat) (h : (szN a 6 : Int) < g) (e : (a : Int) = 2 ^ g.toNat - 1) : False := by
  have := (sz_all g.toNat (by omega) a ha).mp (by omega)
  rw [pwI] at e
  omega
theorem stG_n {f : Int → Int} {g : Int} (hg : 2 ≤ g ∧ g ≤ 6) (hf : ∀ x, 0 ≤ x → x < g → 0 ≤ f x ∧ f x < g) : ∃ a : Nat, a < 2 ^ g.toNat ∧ (a : Int) = stG f g.toNat := by
  have : ∀ n : Nat, n ≤ g.toNat → ∃ a : Nat, a < 2 ^ g.toNat ∧ (a : Int) = stG f n := by
    intro n
    induction n with
    | zero => exact fun _ => ⟨0, Nat.two_pow_pos _, rfl⟩
    | succ n ih =>
      intro hn
      obtain ⟨a, ha, e⟩ := ih (by omega)
      have h1 := hf n (by omega) (by omega)
      have h64 := pw64 hg
      refine ⟨a ||| 2 ^ (f n).toNat, Nat.or_lt_two_pow ha (Nat.pow_lt_pow_right (by decide) (by omega)), ?_⟩
      show _ = bor 32 (stG f n) (1 * 2 ^ (f n).toNat)
      rw [← e, bor_p (by omega) (by omega)]
  exact this g.toNat (Nat.le_refl _)
theorem ix_pm {V : VV} (ho : MO V) {k x : Int} (hk : 0 ≤ k ∧ k < V 55 4) (hx : 0 ≤ x ∧ x < V 55 1) : (0 ≤ V 55 4 * x + k ∧ V 55 4 * x + k < V 55 3) ∧ 0 ≤ V 55 1 * k + x ∧ V 55 1 * k + x < V 55 3 := by
  have hb := ho.b
  have h1 := wd2 (g := V 55 4) (by omega) hx hk
  have h2 := wd2 (g := V 55 1) (by omega) hk hx
  rw [ho.2.2, Int.mul_comm (V 55 4) x, Int.mul_comm (V 55 1) k]
  rw [Int.mul_comm (V 55 1) (V 55 4)] at h1
  exact ⟨h1, h2⟩
theorem per_t {T : Int → Int} {g n : Int} {j : Nat} : perB T g n j = true ↔ ∀ e, 0 ≤ e → e < n → dg g e j = 0 → stG (fun x => T (e + x * g ^ j)) g.toNat = 2 ^ g.toNat - 1 := by
  unfold perB
  rw [allR (p := fun e => perP T g j e)]
  constructor
  · intro h e h0 h1 h2
    have := h e h0 h1
    unfold perP at this
    rw [h2] at this
    simpa using this
  · intro h e h0 h1
    show perP T g j e = true
    unfold perP
    by_cases z : dg g e j = 0
    · rw [h e h0 h1 z]; simp
    · simp [z]
theorem perM {V : VV} {b : Int} (ho : MO V) : perB (V 58) (V 55 1) (V 55 3) (V 55 2 - 1 - (if b = 0 then 0 else V 55 2 - 1)).toNat = true ↔ ∀ k, 0 ≤ k → k < V 55 4 → stG (fun x => V 58 (if b = 0 then V 55 4 * x + k else V 55 1 * k + x)) (V 55 1).toNat = 2 ^ (V 55 1).toNat - 1 := by
  have hb := ho.b
  rw [per_t]
  by_cases z : b = 0
  · simp only [if_pos z]
    have hN : V 55 1 ^ (V 55 2 - 1 - 0).toNat = V 55 4 := by
      rcases ho.2.1 with ⟨w, e⟩ | ⟨w, e⟩
      · rw [w, e]; show V 55 1 ^ 1 = _; rw [Int.pow_succ, Int.pow_zero, Int.one_mul]
      · rw [w, e]; show V 55 1 ^ 2 = _; rw [Int.pow_succ, Int.pow_succ, Int.pow_zero, Int.one_mul]
    have h3 := ho.2.2
    unfold dg
    rw [hN]
    constructor
    · intro H k k0 k1
      have hlt : k < V 55 3 := by
        have := Int.mul_le_mul_of_nonneg_left (show 1 ≤ V 55 1 by omega) (show 0 ≤ V 55 4 by omega)
        omega
      have r := H k k0 hlt (by rw [Int.ediv_eq_zero_of_lt k0 k1]; exact Int.zero_emod _)
      simp only [show ∀ x : Int, V 55 4 * x + k = k + x * V 55 4 from fun x => by rw [Int.mul_comm, Int.add_comm]]
      exact r
    · intro H e e0 e1 ed
      have q2 : e / V 55 4 < V 55 1 := Int.ediv_lt_of_lt_mul (by omega) (by rw [h3, Int.mul_comm] at e1; exact e1)
      rw [Int.emod_eq_of_lt (Int.ediv_nonneg e0 (by omega)) q2] at ed
      have e4 : e < V 55 4 := by
        have h5 := Int.emod_add_mul_ediv e (V 55 4)
        have h6 := Int.emod_lt_of_pos e (show 0 < V 55 4 by omega)
        rw [ed, Int.mul_zero] at h5
        omega
      have r := H e e0 e4
      simp only [show ∀ x : Int, V 55 4 * x + e = e + x * V 55 4 from fun x => by rw [Int.mul_comm, Int.add_comm]] at r
      exact r
  · simp only [if_neg z]
    rw [show (V 55 2 - 1 - (V 55 2 - 1)).toNat = 0 by omega]
    have h3 := ho.2.2
    constructor
    · intro H k k0 k1
      have q := (ix_pm ho (k := k) (x := 0) ⟨k0, k1⟩ (by omega)).2
      have r := H (V 55 1 * k) (by omega) (by omega) (by rw [dg_0]; exact Int.mul_emod_right _ _)
      simp only [Int.pow_zero, Int.mul_one] at r
      exact r
    · intro H e e0 e1 ed
      rw [dg_0] at ed
      have h5 := Int.emod_add_mul_ediv e (V 55 1)
      rw [ed, Int.zero_add] at h5
      have r := H (e / V 55 1) (Int.ediv_nonneg e0 (by omega)) (Int.ediv_lt_of_lt_mul (by omega) (by rw [← h3]; exact e1))
      rw [h5] at r
      simp only [Int.pow_zero, Int.mul_one]
      exact r
set_option maxHeartbeats 4000000 in
theorem ok_X12_isHomomorphism {V : VV} {q : Nat} (hmg : MG V q) (hmo : MO V) (htm : TRM V) : Ok NA yX12_isHomomorphism cX12_isHomomorphism 3 (some .boolean) 2 46 [vA 55] V (pI (fun x9 V' => x9 = (if homB (V 58) q (V 55 1) (V 55 2) (V 55 3) = true then 1 else 0) ∧ V' = up V 55 0 0)) := by
  refine Ok.intro (by decide +kernel) (Nat.le_of_ble_eq_true rfl) (fun X G hX hG hR hoa hoV => ?_)
  show J X G 0 [vA 55, vU, vU] [] V
  have hq9 := hmg.1
  have hq6 := gO_le hq9
  have e9 : V 55 1 = gO q := hmg.2.1
  have hb9 := hmo.b
  refine j_al0 hX dX12_isHomomorphism_0 rfl ?_
  refine j_iconst hX dX12_isHomomorphism_1 ⟨by decide, by decide⟩ ?_
  refine j_putI hX hG fp_X12_126 rfl (by decide) dX12_isHomomorphism_2 ?_
  obtain ⟨U, hU⟩ : ∃ U, U = up V 55 0 0 := ⟨_, rfl⟩
  rw [← hU]
  have u0 : U 55 0 = 0 := by rw [hU]; exact up_s ..
  have uF : ∀ b, b ≠ 0 → U 55 b = V 55 b := fun b hb => by rw [hU]; exact up_n _ (fun q => hb q.2)
  have uC : ∀ a b, a ≠ 55 → U a b = V a b := fun a b ha => by rw [hU]; exact up_n _ (fun q => ha q.1)
  have mgU : MG U q := hmg.t uF uC
  have e8 : U 55 1 = gO q := (uF 1 (by decide)).trans e9
  have moU : MO U := hmo.t uF
  have e3 := uF 3 (by decide)
  have e2 := uF 2 (by decide)
  have e1 := uF 1 (by decide)
  have e58 : U 58 = V 58 := funext fun b => uC 58 b (by decide)
  have htg : ∀ z, 0 ≤ z → z < V 55 3 → 0 ≤ V 58 z ∧ V 58 z < gO q := fun z z0 z1 => by rw [← e9]; exact htm z z0 z1
  refine j_iconst hX dX12_isHomomorphism_5 ⟨by decide, by decide⟩ ?_
  refine j_is1 hX dX12_isHomomorphism_6 rfl ?_
  have lp_7 : ∀ (f9 : Nat) (d : Int), (0 ≤ d ∧ d ≤ V 55 3) → (∀ z, 0 ≤ z → z < d → ∀ e, 0 ≤ e → e < V 55 3 → V 58 (tWd q (gO q) (V 55 2) z e) = gM q (V 58 z) (V 58 e)) → ((V 55 3 - d).toNat) < f9 → J X G 7 [vA 55, vI d, vU] [] U := by
    intro f9
    induction f9 with
    | zero => intro d _ _ hm; exact absurd hm (Nat.not_lt_zero _)
    | succ f9 ih_7 =>
      intro d hd hDD hm
      refine j_il1 hX dX12_isHomomorphism_7 ?_
      refine j_al0 hX dX12_isHomomorphism_8 rfl ?_
      refine j_getI hX hG fl_X12_148 (Or.inl rfl) (by decide) dX12_isHomomorphism_9 ?_
      refine j_icmp_ge (tgt := 69) hX dX12_isHomomorphism_12 (by decide) (fun h_12 => ?_) (fun h_12 => ?_)
      · skip
        refine j_iconst hX dX12_isHomomorphism_69 ⟨by decide, by decide⟩ ?_
        exact j_retZ hR dX12_isHomomorphism_70 (by omega) ⟨(if_pos ((homM hmg hmo htm).mpr fun z z0 z1 e e0 e1 => hDD z z0 (by omega) e e0 e1)).symm, hU⟩
      · skip
        refine j_iconst hX dX12_isHomomorphism_15 ⟨by decide, by decide⟩ ?_
        refine j_is2 hX dX12_isHomomorphism_16 rfl ?_
        have lp_17 : ∀ (f9 : Nat) (e : Int), (0 ≤ e ∧ e ≤ V 55 3) → (∀ z, 0 ≤ z → z < e → V 58 (tWd q (gO q) (V 55 2) d z) = gM q (V 58 d) (V 58 z)) → ((V 55 3 - e).toNat) < f9 → J X G 17 [vA 55, vI d, vI e] [] U := by
          intro f9
          induction f9 with
          | zero => intro e _ _ hm; exact absurd hm (Nat.not_lt_zero _)
          | succ f9 ih_17 =>
            intro e he hEE hm
            refine j_il2 hX dX12_isHomomorphism_17 ?_
            refine j_al0 hX dX12_isHomomorphism_18 rfl ?_
            refine j_getI hX hG fl_X12_148 (Or.inl rfl) (by decide) dX12_isHomomorphism_19 ?_
            refine j_icmp_ge (tgt := 63) hX dX12_isHomomorphism_22 (by decide) (fun h_22 => ?_) (fun h_22 => ?_)
            · skip
              refine j_inc1 hX dX12_isHomomorphism_63 rfl (by omega) ?_
              refine j_goto (tgt := 7) hX dX12_isHomomorphism_66 (by decide) ?_
              refine j_fg2 ?_
              exact ih_7 _ (by omega) (lt_stepI hDD (fun z z0 z1 => hEE z z0 (by omega))) (by omega)
            · skip
              have hd9 : 0 ≤ d ∧ d < V 55 3 := by omega
              have he9 : 0 ≤ e ∧ e < V 55 3 := by omega
              have tb := tWd_b hmg hmo hd9 he9
              refine j_al0 hX dX12_isHomomorphism_25 rfl ?_
              refine j_getR (q := 58) hX hG fl_X12_16 rfl rfl (by decide) dX12_isHomomorphism_26 ?_
              refine j_al0 hX dX12_isHomomorphism_29 rfl ?_
              refine j_il1 hX dX12_isHomomorphism_30 ?_
              refine j_il2 hX dX12_isHomomorphism_31 ?_
              refine j_pVI2 (ci := 12) hX hG lk_X12_319 (ok_X12_timesWord mgU moU (by omega) (by omega)) (by decide) rfl (Nat.le_of_ble_eq_true rfl) (Nat.le_of_ble_eq_true rfl) (Nat.le_of_ble_eq_true rfl) rfl dX12_isHomomorphism_32 ?_
              refine j_eqS (st' := [vI (tWd q (gO q) (V 55 2) d e), vA 58]) (by rw [e2]) ?_
              refine j_iald (n := 216) hX hG (by decide) (by omega) dX12_isHomomorphism_35 ?_
              refine j_eqS (st' := [vI (V 58 (tWd q (gO q) (V 55 2) d e))]) (by rw [e58]) ?_
              refine j_al0 hX dX12_isHomomorphism_36 rfl ?_
              refine j_al0 hX dX12_isHomomorphism_37 rfl ?_
              refine j_getR (q := 58) hX hG fl_X12_16 rfl rfl (by decide) dX12_isHomomorphism_38 ?_
              refine j_il1 hX dX12_isHomomorphism_41 ?_
              refine j_iald (n := 216) hX hG (by decide) (by omega) dX12_isHomomorphism_42 ?_
              refine j_al0 hX dX12_isHomomorphism_43 rfl ?_
              refine j_getR (q := 58) hX hG fl_X12_16 rfl rfl (by decide) dX12_isHomomorphism_44 ?_
              refine j_il2 hX dX12_isHomomorphism_47 ?_
              refine j_iald (n := 216) hX hG (by decide) (by omega) dX12_isHomomorphism_48 ?_
              refine j_eqS (st' := [vI (V 58 e), vI (V 58 d), vA 55, vI (V 58 (tWd q (gO q) (V 55 2) d e))]) (by rw [e58]) ?_
              refine j_pVI2 (ci := 12) hX hG lk_X12_293 (ok_X12_times mgU (htg d hd9.1 hd9.2) (htg e he9.1 he9.2)) (by decide) rfl (Nat.le_of_ble_eq_true rfl) (Nat.le_of_ble_eq_true rfl) (Nat.le_of_ble_eq_true rfl) rfl dX12_isHomomorphism_49 ?_
              refine j_icmp_eq (tgt := 57) hX dX12_isHomomorphism_52 (by decide) (fun h_52 => ?_) (fun h_52 => ?_)
              · skip
                refine j_inc2 hX dX12_isHomomorphism_57 rfl (by omega) ?_
                refine j_goto (tgt := 17) hX dX12_isHomomorphism_60 (by decide) ?_
                exact ih_17 _ (by omega) (lt_stepI hEE h_52) (by omega)
              · skip
                refine j_iconst hX dX12_isHomomorphism_55 ⟨by decide, by decide⟩ ?_
                exact j_retZ hR dX12_isHomomorphism_56 (by omega) ⟨(if_neg (fun z => h_52 ((homM hmg hmo htm).mp z d hd9.1 hd9.2 e he9.1 he9.2))).symm, hU⟩
        exact lp_17 _ _ (by omega) (fun z z0 z1 => by omega) (Nat.lt_succ_self _)
  exact lp_7 _ _ (by omega) (fun z z0 z1 => by omega) (Nat.lt_succ_self _)
set_option maxHeartbeats 4000000 in
theorem ok_X12_sizeOf {V : VV} {s : Nat} (hs0 : s < 64) : Ok NA yX12_sizeOf cX12_sizeOf 3 (some .int) 0 0 [vI (s : Int)] V (pI (fun x9 V' => x9 = (szN s 6 : Int) ∧ V' = V)) := by
  refine Ok.intro (by decide +kernel) (Nat.le_of_ble_eq_true rfl) (fun X G hX hG hR hoa hoV => ?_)
  show J X G 0 [vI (s : Int), vU, vU] [] V
  refine j_iconst hX dX12_sizeOf_0 ⟨by decide, by decide⟩ ?_
  refine j_is1 hX dX12_sizeOf_1 rfl ?_
  refine j_il0 hX dX12_sizeOf_2 ?_
  refine j_is2 hX dX12_sizeOf_3 rfl ?_
  have lp_4 : ∀ (f9 : Nat) (c k i : Int), (0 ≤ i ∧ i ≤ 6) → (k = (s : Int) / 2 ^ i.toNat) → (c = szN s i.toNat) → (0 ≤ c ∧ c ≤ i) → ((7 - i).toNat) < f9 → J X G 4 [vI (s : Int), vI c, vI k] [] V := by
    intro f9
    induction f9 with
    | zero => intro c k i _ _ _ _ hm; exact absurd hm (Nat.not_lt_zero _)
    | succ f9 ih_4 =>
      intro c k i hi hk hc cb hm
      refine j_il2 hX dX12_sizeOf_4 ?_
      refine j_if_le (tgt := 21) hX dX12_sizeOf_5 (by decide) (fun h_5 => ?_) (fun h_5 => ?_)
      · skip
        refine j_il1 hX dX12_sizeOf_21 ?_
        exact j_retI hR dX12_sizeOf_22 ⟨by rw [hc, sz_end hs0 hi (by rw [← hk]; exact h_5)], rfl⟩
      · skip
        have bb : band 32 k 1 = 0 ∨ band 32 k 1 = 1 := by have z := hasN (s := s) (y := i) (by omega) (by omega); rw [← hk] at z; rw [z]; split; exact Or.inr rfl; exact Or.inl rfl
        refine j_il1 hX dX12_sizeOf_8 ?_
        refine j_il2 hX dX12_sizeOf_9 ?_
        refine j_iconst hX dX12_sizeOf_10 ⟨by decide, by decide⟩ ?_
        refine j_iand hX dX12_sizeOf_11 ?_
        refine j_iadd hX dX12_sizeOf_12 (by omega) ?_
        refine j_is1 hX dX12_sizeOf_13 rfl ?_
        refine j_il2 hX dX12_sizeOf_14 ?_
        refine j_iconst hX dX12_sizeOf_15 ⟨by decide, by decide⟩ ?_
        refine j_ishr hX dX12_sizeOf_16 (by decide) ?_
        refine j_is2 hX dX12_sizeOf_17 rfl ?_
        refine j_goto (tgt := 4) hX dX12_sizeOf_18 (by decide) ?_
        exact ih_4 _ _ (i + 1) ⟨by omega, sz_lt hs0 hi (by rw [← hk]; exact h_5)⟩ (by rw [hk]; exact sz_k hi.1) (by rw [hk, hasN (by omega) (by omega), hc]; exact sz_c hi.1) (by have z := hasN (s := s) (y := i) (by omega) (by omega); rw [← hk] at z; rw [z]; split <;> omega) (by omega)
  exact lp_4 _ 0 _ 0 (by omega) (by simp) rfl (by omega) (Nat.lt_succ_self _)
set_option maxHeartbeats 4000000 in
theorem ok_X12_isPermutive {V : VV} {b : Int} (hmo : MO V) (htm : TRM V) : Ok NA yX12_isPermutive cX12_isPermutive 5 (some .boolean) 1 22 [vA 55, vI b] V (pI (fun x9 V' => x9 = (if perB (V 58) (V 55 1) (V 55 3) (V 55 2 - 1 - (if b = 0 then 0 else V 55 2 - 1)).toNat = true then 1 else 0) ∧ V' = up V 55 0 0)) := by
  refine Ok.intro (by decide +kernel) (Nat.le_of_ble_eq_true rfl) (fun X G hX hG hR hoa hoV => ?_)
  show J X G 0 [vA 55, vI b, vU, vU, vU] [] V
  have hb9 := hmo.b
  refine j_al0 hX dX12_isPermutive_0 rfl ?_
  refine j_iconst hX dX12_isPermutive_1 ⟨by decide, by decide⟩ ?_
  refine j_putI hX hG fp_X12_126 rfl (by decide) dX12_isPermutive_2 ?_
  obtain ⟨U, hU⟩ : ∃ U, U = up V 55 0 0 := ⟨_, rfl⟩
  rw [← hU]
  have u0 : U 55 0 = 0 := by rw [hU]; exact up_s ..
  have uF : ∀ b, b ≠ 0 → U 55 b = V 55 b := fun b hb => by rw [hU]; exact up_n _ (fun q => hb q.2)
  have uC : ∀ a b, a ≠ 55 → U a b = V a b := fun a b ha => by rw [hU]; exact up_n _ (fun q => ha q.1)
  have moU : MO U := hmo.t uF
  have e4 := uF 4 (by decide)
  have e1 := uF 1 (by decide)
  have e3 := uF 3 (by decide)
  refine j_iconst hX dX12_isPermutive_5 ⟨by decide, by decide⟩ ?_
  refine j_is2 hX dX12_isPermutive_6 rfl ?_
  have lp_7 : ∀ (f9 : Nat) (k : Int), (0 ≤ k ∧ k ≤ V 55 4) → (∀ z, 0 ≤ z → z < k → stG (fun x => V 58 (if b = 0 then V 55 4 * x + z else V 55 1 * z + x)) (V 55 1).toNat = 2 ^ (V 55 1).toNat - 1) → ((V 55 4 - k).toNat) < f9 → J X G 7 [vA 55, vI b, vI k, vU, vU] [] U := by
    intro f9
    induction f9 with
    | zero => intro k _ _ hm; exact absurd hm (Nat.not_lt_zero _)
    | succ f9 ih_7 =>
      intro k hk hKK hm
      refine j_il2 hX dX12_isPermutive_7 ?_
      refine j_al0 hX dX12_isPermutive_8 rfl ?_
      refine j_getI hX hG fl_X12_145 (Or.inl rfl) (by decide) dX12_isPermutive_9 ?_
      refine j_icmp_ge (tgt := 89) hX dX12_isPermutive_12 (by decide) (fun h_12 => ?_) (fun h_12 => ?_)
      · skip
        refine j_iconst hX dX12_isPermutive_89 ⟨by decide, by decide⟩ ?_
        exact j_retZ hR dX12_isPermutive_90 (by omega) ⟨(if_pos ((perM hmo).mpr fun z z0 z1 => hKK z z0 (by omega))).symm, hU⟩
      · skip
        refine j_iconst hX dX12_isPermutive_15 ⟨by decide, by decide⟩ ?_
        refine j_is3 hX dX12_isPermutive_16 rfl ?_
        refine j_iconst hX dX12_isPermutive_17 ⟨by decide, by decide⟩ ?_
        refine j_is4 hX dX12_isPermutive_18 rfl ?_
        have lp_20 : ∀ (f9 : Nat) (m x : Int), (0 ≤ x ∧ x ≤ V 55 1) → (m = stG (fun x => V 58 (if b = 0 then V 55 4 * x + k else V 55 1 * k + x)) x.toNat) → ((V 55 1 - x).toNat) < f9 → J X G 20 [vA 55, vI b, vI k, vI m, vI x] [] U := by
          intro f9
          induction f9 with
          | zero => intro m x _ _ hm; exact absurd hm (Nat.not_lt_zero _)
          | succ f9 ih_20 =>
            intro m x hx hm9 hm
            refine j_il4 hX dX12_isPermutive_20 ?_
            refine j_al0 hX dX12_isPermutive_22 rfl ?_
            refine j_getI hX hG fl_X12_136 (Or.inl rfl) (by decide) dX12_isPermutive_23 ?_
            refine j_icmp_ge (tgt := 70) hX dX12_isPermutive_26 (by decide) (fun h_26 => ?_) (fun h_26 => ?_)
            · skip
              obtain ⟨a, ha1, ha2⟩ := stG_n (f := (fun x => V 58 (if b = 0 then V 55 4 * x + k else V 55 1 * k + x))) hb9.1 (fun y y0 y1 => by have ib := ix_pm hmo (k := k) (x := y) (by omega) (by omega); split; exact htm _ ib.1.1 ib.1.2; exact htm _ ib.2.1 ib.2.2)
              refine j_il3 hX dX12_isPermutive_70 ?_
              refine j_eqS (st' := [vI (a : Int)]) (by rw [hm9, show x = V 55 1 by omega, ha2]) ?_
              refine j_pSI1 hX hG lk_X12_322 (ok_X12_sizeOf (Nat.lt_of_lt_of_le ha1 (pw64 hb9.1))) (Nat.le_of_ble_eq_true rfl) (Nat.le_of_ble_eq_true rfl) (Nat.le_of_ble_eq_true rfl) rfl dX12_isPermutive_71 ?_
              refine j_al0 hX dX12_isPermutive_74 rfl ?_
              refine j_getI hX hG fl_X12_136 (Or.inl rfl) (by decide) dX12_isPermutive_75 ?_
              refine j_icmp_ge (tgt := 83) hX dX12_isPermutive_78 (by decide) (fun h_78 => ?_) (fun h_78 => ?_)
              · skip
                refine j_inc2 hX dX12_isPermutive_83 rfl (by omega) ?_
                refine j_goto (tgt := 7) hX dX12_isPermutive_86 (by decide) ?_
                refine j_fg3 ?_
                refine j_fg4 ?_
                exact ih_7 _ (by omega) (lt_stepI hKK (by rw [← ha2]; exact sz_full hb9.1 ha1 (by omega))) (by omega)
              · skip
                refine j_iconst hX dX12_isPermutive_81 ⟨by decide, by decide⟩ ?_
                exact j_retZ hR dX12_isPermutive_82 (by omega) ⟨(if_neg (fun z => sz_not hb9.1 ha1 (by omega) (by rw [ha2]; exact (perM hmo).mp z k hk.1 (by omega)))).symm, hU⟩
            · skip
              have ib := ix_pm hmo (k := k) (x := x) (by omega) (by omega)
              have t1 := htm _ ib.1.1 ib.1.2
              have t2 := htm _ ib.2.1 ib.2.2
              refine j_il3 hX dX12_isPermutive_29 ?_
              refine j_iconst hX dX12_isPermutive_30 ⟨by decide, by decide⟩ ?_
              refine j_al0 hX dX12_isPermutive_31 rfl ?_
              refine j_getR (q := 58) hX hG fl_X12_16 rfl rfl (by decide) dX12_isPermutive_32 ?_
              refine j_il1 hX dX12_isPermutive_35 ?_
              refine j_if_eq (tgt := 51) hX dX12_isPermutive_36 (by decide) (fun h_36 => ?_) (fun h_36 => ?_)
              · skip
                refine j_al0 hX dX12_isPermutive_51 rfl ?_
                refine j_getI hX hG fl_X12_145 (Or.inl rfl) (by decide) dX12_isPermutive_52 ?_
                refine j_il4 hX dX12_isPermutive_55 ?_
                refine j_imul hX dX12_isPermutive_57 (by rw [e4]; omega) ?_
                refine j_il2 hX dX12_isPermutive_58 ?_
                refine j_iadd hX dX12_isPermutive_59 (by rw [e4]; omega) ?_
                refine j_iald (n := 216) hX hG (by decide) (by first | (rw [e1]; omega) | (rw [e4]; omega)) dX12_isPermutive_60 ?_
                try rw [e4, uC 58 _ (by decide)]
                try rw [e1, uC 58 _ (by decide)]
                refine j_ishl hX dX12_isPermutive_61 (by omega) (p2_30 (by omega)) ?_
                refine j_ior hX dX12_isPermutive_62 ?_
                refine j_is3 hX dX12_isPermutive_63 rfl ?_
                refine j_inc4 hX dX12_isPermutive_64 rfl (by omega) ?_
                refine j_goto (tgt := 20) hX dX12_isPermutive_67 (by decide) ?_
                exact ih_20 _ _ (by omega) (by rw [stG_S hx.1, ← hm9]; simp only [h_36, ↓reduceIte]) (by omega)
              · skip
                refine j_al0 hX dX12_isPermutive_39 rfl ?_
                refine j_getI hX hG fl_X12_136 (Or.inl rfl) (by decide) dX12_isPermutive_40 ?_
                refine j_il2 hX dX12_isPermutive_43 ?_
                refine j_imul hX dX12_isPermutive_44 (by rw [e1]; omega) ?_
                refine j_il4 hX dX12_isPermutive_45 ?_
                refine j_iadd hX dX12_isPermutive_47 (by rw [e1]; omega) ?_
                refine j_goto (tgt := 60) hX dX12_isPermutive_48 (by decide) ?_
                refine j_iald (n := 216) hX hG (by decide) (by first | (rw [e1]; omega) | (rw [e4]; omega)) dX12_isPermutive_60 ?_
                try rw [e4, uC 58 _ (by decide)]
                try rw [e1, uC 58 _ (by decide)]
                refine j_ishl hX dX12_isPermutive_61 (by omega) (p2_30 (by omega)) ?_
                refine j_ior hX dX12_isPermutive_62 ?_
                refine j_is3 hX dX12_isPermutive_63 rfl ?_
                refine j_inc4 hX dX12_isPermutive_64 rfl (by omega) ?_
                refine j_goto (tgt := 20) hX dX12_isPermutive_67 (by decide) ?_
                exact ih_20 _ _ (by omega) (by rw [stG_S hx.1, ← hm9]; simp only [h_36, ↓reduceIte]) (by omega)
        exact lp_20 _ _ _ (by omega) rfl (Nat.lt_succ_self _)
  exact lp_7 _ _ (by omega) (fun z z0 z1 => by omega) (Nat.lt_succ_self _)
