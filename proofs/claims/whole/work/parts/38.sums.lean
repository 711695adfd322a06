/-! the basis in lowest terms -/
def rwV (V : VV) (x : Int) : VC := fun y => V 45 (x * 6 + y)
theorem posr {d b : Int} (hd : 0 < d) (h : 0 < d * b) : 0 < b := Classical.byContradiction fun q => by
  have := Int.mul_le_mul_of_nonneg_left (show b ≤ 0 by omega) (show 0 ≤ d by omega)
  rw [Int.mul_zero] at this; omega
def LT9 (t b T B : Int) : Prop := T * b = t * B ∧ 0 < B ∧ Int.gcd T B = 1
theorem LT_of {t b : Int} (hb : b ≠ 0) {s : Int} (hs : s = if b < 0 then -1 else 1) {d : Int} (hd : d = (Int.gcd t b : Int)) : 0 < d ∧ LT9 t b (s * t.tdiv d) (s * b.tdiv d) := by
  have d0 : 0 < d := by rw [hd]; have := Int.gcd_pos_of_ne_zero_right t hb; omega
  obtain ⟨t', ht⟩ : d ∣ t := hd ▸ Int.gcd_dvd_left ..
  obtain ⟨b', hb'⟩ : d ∣ b := hd ▸ Int.gcd_dvd_right ..
  have e1 : t.tdiv d = t' := by rw [ht]; exact Int.mul_tdiv_cancel_left _ (by omega)
  have e2 : b.tdiv d = b' := by rw [hb']; exact Int.mul_tdiv_cancel_left _ (by omega)
  have hg : Int.gcd t' b' = 1 := by
    have h := Int.gcd_mul_left d t' b'
    rw [← ht, ← hb'] at h
    have h2 : d.natAbs * Int.gcd t' b' = d.natAbs * 1 := by rw [← h]; omega
    exact Nat.eq_of_mul_eq_mul_left (by omega) h2
  have hsg : s = 1 ∧ 0 < b ∨ s = -1 ∧ b < 0 := by
    by_cases q : b < 0
    · rw [if_pos q] at hs; exact Or.inr ⟨hs, q⟩
    · rw [if_neg q] at hs; exact Or.inl ⟨hs, by omega⟩
  have hbp : 0 < s * b' := by
    rcases hsg with ⟨e, q⟩ | ⟨e, q⟩
    · rw [e, Int.one_mul]; rw [hb'] at q; exact posr d0 q
    · rw [e]
      have : 0 < d * (-b') := by rw [Int.mul_neg, ← hb']; omega
      have := posr d0 this
      omega
  refine ⟨d0, ?_, by rw [e2]; exact hbp, ?_⟩
  · rw [e1, e2, ht, hb', Int.mul_assoc, Int.mul_assoc, Int.mul_left_comm s t', Int.mul_left_comm d t', Int.mul_left_comm s d]
  · rw [e1, e2]
    rcases hsg with ⟨e, q⟩ | ⟨e, q⟩
    · rw [e, Int.one_mul, Int.one_mul]; exact hg
    · rw [e, Int.neg_mul, Int.neg_mul, Int.one_mul, Int.one_mul, Int.neg_gcd, Int.gcd_neg]; exact hg
theorem cop {B T k : Int} (h : Int.gcd B T = 1) (hd : B ∣ T * k) : B ∣ k := by
  have h1 : B ∣ (Int.gcd B (T * k) : Int) := Int.dvd_coe_gcd (Int.dvd_refl B) hd
  rw [Int.gcd_mul_right_right_of_gcd_eq_one h] at h1
  exact Int.dvd_trans h1 (Int.gcd_dvd_right ..)
theorem LT_u {t b T B t' b' T' B' : Int} (h : LT9 t b T B) (h' : LT9 t' b' T' B') (hb : b ≠ 0) (hb' : b' ≠ 0) (e : t * b' = t' * b) : T = T' ∧ B = B' := by
  obtain ⟨h1, h2, h3⟩ := h
  obtain ⟨k1, k2, k3⟩ := h'
  have key : T * B' = T' * B := by
    have e1 : T * B' * (b * b') = T' * B * (b * b') := by
      have a1 : T * B' * (b * b') = (T * b) * (B' * b') := by rw [Int.mul_assoc, Int.mul_assoc, Int.mul_left_comm B']
      have a2 : T' * B * (b * b') = (T' * b') * (B * b) := by rw [Int.mul_assoc, Int.mul_assoc, Int.mul_comm b b', Int.mul_left_comm B]
      rw [a1, a2, h1, k1]
      have a3 : t * B * (B' * b') = (t * b') * (B * B') := by rw [Int.mul_assoc, Int.mul_assoc, Int.mul_comm B' b', Int.mul_left_comm B]
      have a4 : t' * B' * (B * b) = (t' * b) * (B * B') := by rw [Int.mul_assoc, Int.mul_assoc, Int.mul_comm B b, Int.mul_left_comm B', Int.mul_comm B']
      rw [a3, a4, e]
    exact Int.eq_of_mul_eq_mul_right (Int.mul_ne_zero hb hb') e1
  have d1 : B ∣ B' := cop (T := T) (by rw [Int.gcd_comm]; exact h3) ⟨T', by rw [key, Int.mul_comm]⟩
  have d2 : B' ∣ B := cop (T := T') (by rw [Int.gcd_comm]; exact k3) ⟨T, by rw [← key, Int.mul_comm]⟩
  have l1 := Int.le_of_dvd k2 d1
  have l2 := Int.le_of_dvd h2 d2
  have eB : B = B' := by omega
  rw [eB] at key
  exact ⟨Int.eq_of_mul_eq_mul_right (by omega) key, eB⟩
theorem LT_id (t : Int) : LT9 t 1 t 1 := ⟨rfl, by decide, Int.gcd_one⟩
def cnF (C : Int → VC) (f : Int) : Int := cntI (fun x => C x x == 0) f.toNat
def BROW (C : Int → VC) (f : Int) (T B : Int → Int) (k : Int) : Prop := ∀ x, 0 ≤ x → x < k → (C x x ≠ 0 → LT9 (-(C x f)) (C x x) (T x) (B x)) ∧ (C x x = 0 → T x = (if x = f then 1 else 0) ∧ B x = 1)
def BAS (g : Int) (C : Int → VC) (D : Int) (tp bt : Int → Int → Int) : Prop := D = cnF C g ∧ ∀ f, 0 ≤ f → f < g → C f f = 0 → BROW C f (tp (cnF C f)) (bt (cnF C f)) g
def GEN (T : Int → Int) (g N m : Int) : VC → Prop := fun u => ∃ e, 0 ≤ e ∧ e < m ∧ u = eqV T g N e
theorem GEN_S {T : Int → Int} {g N m : Int} (h : 0 ≤ m) : (fun u => GEN T g N m u ∨ u = eqV T g N m) = GEN T g N (m + 1) := by
  funext u
  refine propext ⟨fun q => ?_, fun ⟨e, e0, e1, e2⟩ => ?_⟩
  · rcases q with ⟨e, e0, e1, e2⟩ | q
    · exact ⟨e, e0, by omega, e2⟩
    · exact ⟨m, h, by omega, q⟩
  · by_cases q : e = m
    · subst q; exact Or.inr e2
    · exact Or.inl ⟨e, e0, by omega, e2⟩
theorem CIr_0 {T : Int → Int} {g N : Int} {C : Int → VC} (h : ∀ x, 0 ≤ x → x < g → C x x = 0) : CIr g (GEN T g N 0) C := ⟨fun x x0 x1 hx => absurd (h x x0 x1) hx, fun x x0 x1 hx => absurd (h x x0 x1) hx, fun f ⟨e, e0, e1, _⟩ => by omega, fun x x0 x1 hx => absurd (h x x0 x1) hx, fun f ⟨e, e0, e1, _⟩ => by omega⟩
def BASP (V : VV) (T : Int → Int) (g N n : Int) : Prop := V 44 5 = g ∧ ∃ C, CL g (GEN T g N n) C g ∧ BAS g C (V 44 6) (fun d x => V 47 (d * 6 + x)) (fun d x => V 48 (d * 6 + x))
theorem cnF_S {C : Int → VC} {f : Int} (h : 0 ≤ f) : cnF C (f + 1) = cnF C f + (if C f f = 0 then 1 else 0) := by
  unfold cnF
  rw [cntI_S h]
  by_cases q : C f f = 0
  · rw [if_pos (by simpa using q), if_pos q]
  · rw [if_neg (by simpa using q), if_neg q]
theorem cnF_b (C : Int → VC) {f : Int} (h : 0 ≤ f) : 0 ≤ cnF C f ∧ cnF C f ≤ f := by
  have := cntI_b (fun x => C x x == 0) f.toNat
  unfold cnF
  omega
theorem cnF_lt {C : Int → VC} {f f' : Int} (h0 : 0 ≤ f') (h1 : f' < f) (hz : C f' f' = 0) : cnF C f' + 1 ≤ cnF C f := by
  have key : ∀ n : Nat, cnF C f' + 1 ≤ cnF C (f' + 1 + n) := by
    intro n
    induction n with
    | zero => rw [show f' + 1 + ((0 : Nat) : Int) = f' + 1 by simp, cnF_S h0, if_pos hz]; exact Int.le_refl _
    | succ n ih =>
      rw [show f' + 1 + ((n + 1 : Nat) : Int) = (f' + 1 + n) + 1 by push_cast; omega, cnF_S (by omega)]
      split <;> omega
  have := key (f - f' - 1).toNat
  rwa [show f' + 1 + (((f - f' - 1).toNat : Nat) : Int) = f by omega] at this
theorem BROW_e {C : Int → VC} {f k : Int} {T B T' B' : Int → Int} (h : BROW C f T B k) (e : ∀ x, 0 ≤ x → x < k → T' x = T x ∧ B' x = B x) : BROW C f T' B' k := fun x x0 x1 => by
  rw [(e x x0 x1).1, (e x x0 x1).2]; exact h x x0 x1

theorem tdb9 {x d c : Int} (_ : 0 < d) (hx : -c ≤ x ∧ x ≤ c) : -c ≤ x.tdiv d ∧ x.tdiv d ≤ c := by
  have h := Int.natAbs_tdiv_le_natAbs x d
  omega
theorem bet_k {k x : Int} (hk : k ≤ 5) (hx : 1 ≤ x) (hxk : x < k) : bet k * 6561 ^ (k - 1 - x).toNat * 6561 ≤ 3000000000000000000 := by
  have h : ∀ k : Nat, k ≤ 5 → ∀ x : Nat, x < k → 1 ≤ x → bet (k : Int) * 6561 ^ ((k : Int) - 1 - (x : Int)).toNat * 6561 ≤ 3000000000000000000 := by decide +kernel
  have := h k.toNat (by omega) x.toNat (by omega) (by omega)
  rwa [show ((k.toNat : Nat) : Int) = k by omega, show ((x.toNat : Nat) : Int) = x by omega] at this
set_option maxHeartbeats 4000000 in
theorem ok_X1_addEquation {V : VV} {F : VC → Prop} {f : VC} (hg : 2 ≤ V 44 5 ∧ V 44 5 ≤ 6) (hC : CIr (V 44 5) F (rwV V)) (hf : NB (V 44 5) 3 f) (he : ∀ x, 0 ≤ x → x < V 44 5 → V 46 x = f x) : Ok NC yX1_addEquation cX1_addEquation 2 none 3 81 [vA 44] V (pV (fun V' => CIr (V 44 5) (fun u => F u ∨ u = f) (rwV V') ∧ fr [45, 46] V V')) := by
  refine Ok.intro (by decide +kernel) (Nat.le_of_ble_eq_true rfl) (fun X G hX hG hR hoa hoV => ?_)
  show J X G 0 [vA 44, vU] [] V
  refine j_al0 hX dX1_addEquation_0 rfl ?_
  refine j_getI hX hG fl_X1_36 (Or.inl rfl) (by decide) dX1_addEquation_1 ?_
  refine j_iconst hX dX1_addEquation_4 ⟨by decide, by decide⟩ ?_
  refine j_isub hX dX1_addEquation_5 (by omega) ?_
  refine j_is1 hX dX1_addEquation_6 rfl ?_
  have lp_7 : ∀ (f9 : Nat) (x : Int) (W : VV), (-1 ≤ x ∧ x < V 44 5) → (fr [46] V W) → (CE (V 44 5) F f (rwV V) x (W 46)) → ((x + 1).toNat) < f9 → J X G 7 [vA 44, vI x] [] W := by
    intro f9
    induction f9 with
    | zero => intro x W _ _ _ hm; exact absurd hm (Nat.not_lt_zero _)
    | succ f9 ih_7 =>
      intro x W hx hs hE hm
      refine j_il1 hX dX1_addEquation_7 ?_
      refine j_if_lt (tgt := 49) hX dX1_addEquation_8 (by decide) (fun h_8 => ?_) (fun h_8 => ?_)
      · skip
        exact j_ret hR dX1_addEquation_49 ⟨by have e : x = -1 := (by omega); rw [e] at hE; have h9 := CE_end hC hE; have q45 : W 45 = V 45 := (funext fun b => hs 45 b (by decide)); have e2 : rwV W = rwV V := (by funext a b; unfold rwV; rw [q45]); rw [e2]; exact h9, fr_w hs (by decide)⟩
      · skip
        have q5 : W 44 5 = V 44 5 := hs 44 5 (by decide)
        have q45 : W 45 = V 45 := funext fun b => hs 45 b (by decide)
        refine j_al0 hX dX1_addEquation_11 rfl ?_
        refine j_getR (q := 46) hX hG fl_X1_15 rfl rfl (by decide) dX1_addEquation_12 ?_
        refine j_il1 hX dX1_addEquation_15 ?_
        refine j_pSL2 hX hG lk_X1_86 (ok_X11_bitsAt_in (n := 6) (by decide) (by first | assumption | decide) (by omega)) (Nat.le_of_ble_eq_true rfl) (Nat.le_of_ble_eq_true rfl) (Nat.le_of_ble_eq_true rfl) rfl dX1_addEquation_16 ?_
        refine j_lconst (x := 0) hX dX1_addEquation_19 rfl ⟨by decide, by decide⟩ ?_
        refine j_lcmp_eq (tgt := 43) hX dX1_addEquation_20 dX1_addEquation_21 (by decide) (fun h_21 => ?_) (fun h_21 => ?_)
        · skip
          refine j_inc1 hX dX1_addEquation_43 rfl (by omega) ?_
          refine j_goto (tgt := 7) hX dX1_addEquation_46 (by decide) ?_
          exact ih_7 _ _ (by omega) (by first | exact fr_t hs f_40 | exact hs) (by first | exact CE_skip hE h_21 | exact CE_el hC hE ⟨by omega, by omega, by omega⟩ hbb n_40) (by omega)
        · skip
          have hx1 := CE_pos hE (by omega) hx.2 h_21
          refine j_al0 hX dX1_addEquation_24 rfl ?_
          refine j_il1 hX dX1_addEquation_25 ?_
          refine j_pVI1 (ci := 1) hX hG lk_X1_53 (ok_X1_isBound (by omega)) (by decide) rfl (Nat.le_of_ble_eq_true rfl) (Nat.le_of_ble_eq_true rfl) (Nat.le_of_ble_eq_true rfl) rfl dX1_addEquation_26 ?_
          refine j_ifz_ne (tgt := 38) hX dX1_addEquation_29 (by decide) (fun h_29 => ?_) (fun h_29 => ?_)
          · skip
            have hbb : V 45 (x * 6 + x) ≠ 0 := by rw [← q45]; exact h_29
            have hcn := (hC.2.2.2.1 x (by omega) hx.2 hbb).1
            refine j_al0 hX dX1_addEquation_38 rfl ?_
            refine j_il1 hX dX1_addEquation_39 ?_
            refine j_cVV1 (ci := 1) hX hG lk_X1_101 (ok_X1_eliminate (by rw [q5]; exact hg) (by rw [q5]; exact ⟨by omega, hx.2⟩) (fun y y0 y1 => (NB_e hE.2.2.2.1 y0 (by rw [← q5]; exact y1)).1) (fun y y0 y1 => by rw [q45]; exact (NB_e hcn y0 (by rw [← q5]; exact y1)).1) (by rw [bet_sq (by omega)]; have := bet_0 (x := x - 1) (by omega); omega)) (by decide) rfl (Nat.le_of_ble_eq_true rfl) (Nat.le_of_ble_eq_true rfl) (Nat.le_of_ble_eq_true rfl) rfl dX1_addEquation_40 (fun V_40 h_40 => ?_)
            obtain ⟨n_40, f_40⟩ := h_40
            rw [q5, q45] at n_40
            refine j_inc1 hX dX1_addEquation_43 rfl (by omega) ?_
            refine j_goto (tgt := 7) hX dX1_addEquation_46 (by decide) ?_
            exact ih_7 _ _ (by omega) (by first | exact fr_t hs f_40 | exact hs) (by first | exact CE_skip hE h_21 | exact CE_el hC hE ⟨by omega, by omega, by omega⟩ hbb n_40) (by omega)
          · skip
            have hbp : V 45 (x * 6 + x) = 0 := Classical.byContradiction fun q => h_29 (by rw [q45]; exact q)
            refine j_al0 hX dX1_addEquation_32 rfl ?_
            refine j_il1 hX dX1_addEquation_33 ?_
            refine j_cVV1 (ci := 1) hX hG lk_X1_98 (ok_X1_keepEquation (by rw [q5]; exact hg) (by omega)) (by decide) rfl (Nat.le_of_ble_eq_true rfl) (Nat.le_of_ble_eq_true rfl) (Nat.le_of_ble_eq_true rfl) rfl dX1_addEquation_34 (fun V_34 h_34 => ?_)
            obtain ⟨a_34, b_34, f_34⟩ := h_34
            rw [q5] at a_34
            exact j_ret hR dX1_addEquation_37 ⟨CE_keep hC hE ⟨by omega, hx.2⟩ hbp h_21 (fun z z0 z1 => a_34 z z0 z1) (fun y y0 y1 hy z z0 z1 => by show V_34 45 (y * 6 + z) = V 45 (y * 6 + z); rw [b_34 _ (by omega), q45]), fr_t (fr_w hs (by decide)) (fr_w f_34 (by decide))⟩
  exact lp_7 _ _ _ (by omega) fr_0 (CE_0 (by omega) hf he) (Nat.lt_succ_self _)
set_option maxHeartbeats 4000000 in
theorem ok_X1_clearBelow {V : VV} {F : VC → Prop} {k : Int} (hg : 2 ≤ V 44 5 ∧ V 44 5 ≤ 6) (hC : CL (V 44 5) F (rwV V) k) (hk : 0 ≤ k ∧ k < V 44 5) (hp : V 45 (k * 6 + k) ≠ 0) : Ok NC yX1_clearBelow cX1_clearBelow 3 none 3 81 [vA 44, vI k] V (pV (fun V' => CL (V 44 5) F (rwV V') (k + 1) ∧ fr [45, 46] V V')) := by
  refine Ok.intro (by decide +kernel) (Nat.le_of_ble_eq_true rfl) (fun X G hX hG hR hoa hoV => ?_)
  show J X G 0 [vA 44, vI k, vU] [] V
  have hp0 := CL_p0 (by omega) hC
  refine j_iconst hX dX1_clearBelow_0 ⟨by decide, by decide⟩ ?_
  refine j_is2 hX dX1_clearBelow_1 rfl ?_
  have lp_2 : ∀ (f9 : Nat) (x : Int) (W : VV), (0 ≤ x ∧ x ≤ V 44 5) → (fr [46] V W) → (∀ y, 0 ≤ y → y < x → W 46 y = V 45 (k * 6 + y)) → ((V 44 5 - x).toNat) < f9 → J X G 2 [vA 44, vI k, vI x] [] W := by
    intro f9
    induction f9 with
    | zero => intro x W _ _ _ hm; exact absurd hm (Nat.not_lt_zero _)
    | succ f9 ih_2 =>
      intro x W hx hs h1 hm
      refine j_il2 hX dX1_clearBelow_2 ?_
      refine j_al0 hX dX1_clearBelow_3 rfl ?_
      refine j_getI hX hG fl_X1_36 (Or.inl rfl) (by decide) dX1_clearBelow_4 ?_
      refine j_icmp_ge (tgt := 30) hX dX1_clearBelow_7 (by decide) (fun h_7 => ?_) (fun h_7 => ?_)
      · skip
        refine j_il1 hX dX1_clearBelow_30 ?_
        refine j_iconst hX dX1_clearBelow_31 ⟨by decide, by decide⟩ ?_
        refine j_isub hX dX1_clearBelow_32 (by omega) ?_
        refine j_is2 hX dX1_clearBelow_33 rfl ?_
        have lp_34 : ∀ (f9 : Nat) (x : Int) (W : VV), (-1 ≤ x ∧ x < k) → (fr [46] V W) → (CK (V 44 5) F (rwV V) k x (W 46)) → ((x + 1).toNat) < f9 → J X G 34 [vA 44, vI k, vI x] [] W := by
          intro f9
          induction f9 with
          | zero => intro x W _ _ _ hm; exact absurd hm (Nat.not_lt_zero _)
          | succ f9 ih_34 =>
            intro x W hx hs hE hm
            refine j_il2 hX dX1_clearBelow_34 ?_
            refine j_if_lt (tgt := 70) hX dX1_clearBelow_35 (by decide) (fun h_35 => ?_) (fun h_35 => ?_)
            · skip
              refine j_al0 hX dX1_clearBelow_70 rfl ?_
              have q5 : W 44 5 = V 44 5 := hs 44 5 (by decide)
              have q45 : W 45 = V 45 := funext fun b => hs 45 b (by decide)
              refine j_il1 hX dX1_clearBelow_71 ?_
              refine j_cVV1 (ci := 1) hX hG lk_X1_98 (ok_X1_keepEquation (by rw [q5]; exact hg) (by omega)) (by decide) rfl (Nat.le_of_ble_eq_true rfl) (Nat.le_of_ble_eq_true rfl) (Nat.le_of_ble_eq_true rfl) rfl dX1_clearBelow_72 (fun V_72 h_72 => ?_)
              obtain ⟨a_72, b_72, f_72⟩ := h_72
              exact j_ret hR dX1_clearBelow_75 ⟨by have e : x = -1 := (by omega); rw [e] at hE; rw [q5] at a_72; exact CL_S hg hC hE hk hp (fun z z0 z1 => a_72 z z0 z1) (fun y y0 y1 hy z z0 z1 => by show V_72 45 (y * 6 + z) = V 45 (y * 6 + z); rw [b_72 _ (by omega), q45]), fr_t (fr_w hs (by decide)) (fr_w f_72 (by decide))⟩
            · skip
              have q5 : W 44 5 = V 44 5 := hs 44 5 (by decide)
              have q45 : W 45 = V 45 := funext fun b => hs 45 b (by decide)
              refine j_al0 hX dX1_clearBelow_38 rfl ?_
              refine j_il2 hX dX1_clearBelow_39 ?_
              refine j_pVI1 (ci := 1) hX hG lk_X1_53 (ok_X1_isBound (by omega)) (by decide) rfl (Nat.le_of_ble_eq_true rfl) (Nat.le_of_ble_eq_true rfl) (Nat.le_of_ble_eq_true rfl) rfl dX1_clearBelow_40 ?_
              refine j_ifz_eq (tgt := 64) hX dX1_clearBelow_43 (by decide) (fun h_43 => ?_) (fun h_43 => ?_)
              · skip
                refine j_inc2 hX dX1_clearBelow_64 rfl (by omega) ?_
                refine j_goto (tgt := 34) hX dX1_clearBelow_67 (by decide) ?_
                exact ih_34 _ _ (by omega) (by first | exact fr_t hs f_61 | exact hs) (by first | exact CK_skip hE (Or.inl (Classical.byContradiction fun q => h_43 (by rw [q45]; exact q))) (by omega) | exact CK_skip hE (Or.inr h_56) (by omega) | exact CK_el hC hE ⟨by omega, hx.2, hk.2⟩ hbb n_61) (by omega)
              · skip
                refine j_al0 hX dX1_clearBelow_46 rfl ?_
                refine j_getR (q := 46) hX hG fl_X1_15 rfl rfl (by decide) dX1_clearBelow_47 ?_
                refine j_il2 hX dX1_clearBelow_50 ?_
                refine j_pSL2 hX hG lk_X1_86 (ok_X11_bitsAt_in (n := 6) (by decide) (by first | assumption | decide) (by omega)) (Nat.le_of_ble_eq_true rfl) (Nat.le_of_ble_eq_true rfl) (Nat.le_of_ble_eq_true rfl) rfl dX1_clearBelow_51 ?_
                refine j_lconst (x := 0) hX dX1_clearBelow_54 rfl ⟨by decide, by decide⟩ ?_
                refine j_lcmp_eq (tgt := 64) hX dX1_clearBelow_55 dX1_clearBelow_56 (by decide) (fun h_56 => ?_) (fun h_56 => ?_)
                · skip
                  refine j_inc2 hX dX1_clearBelow_64 rfl (by omega) ?_
                  refine j_goto (tgt := 34) hX dX1_clearBelow_67 (by decide) ?_
                  exact ih_34 _ _ (by omega) (by first | exact fr_t hs f_61 | exact hs) (by first | exact CK_skip hE (Or.inl (Classical.byContradiction fun q => h_43 (by rw [q45]; exact q))) (by omega) | exact CK_skip hE (Or.inr h_56) (by omega) | exact CK_el hC hE ⟨by omega, hx.2, hk.2⟩ hbb n_61) (by omega)
                · skip
                  have hbb : V 45 (x * 6 + x) ≠ 0 := by rw [← q45]; exact h_43
                  have hx1 : 1 ≤ x := by
                    by_cases e : x = 0
                    · rw [e] at hbb; exact absurd hp0 hbb
                    · omega
                  have hcn := (hC.2.2.2.2.2 x (by omega) (by omega) hbb hx.2).1
                  have hbk := bet_k (k := k) (x := x) (by omega) hx1 hx.2
                  refine j_al0 hX dX1_clearBelow_59 rfl ?_
                  refine j_il2 hX dX1_clearBelow_60 ?_
                  refine j_cVV1 (ci := 1) hX hG lk_X1_101 (ok_X1_eliminate (by rw [q5]; exact hg) (by rw [q5]; omega) (fun y y0 y1 => (NB_e hE.2.2.2.2.1 y0 (by rw [← q5]; exact y1)).1) (fun y y0 y1 => by rw [q45]; exact (NB_e hcn y0 (by rw [← q5]; exact y1)).1) hbk) (by decide) rfl (Nat.le_of_ble_eq_true rfl) (Nat.le_of_ble_eq_true rfl) (Nat.le_of_ble_eq_true rfl) rfl dX1_clearBelow_61 (fun V_61 h_61 => ?_)
                  obtain ⟨n_61, f_61⟩ := h_61
                  rw [q5, q45] at n_61
                  refine j_inc2 hX dX1_clearBelow_64 rfl (by omega) ?_
                  refine j_goto (tgt := 34) hX dX1_clearBelow_67 (by decide) ?_
                  exact ih_34 _ _ (by omega) (by first | exact fr_t hs f_61 | exact hs) (by first | exact CK_skip hE (Or.inl (Classical.byContradiction fun q => h_43 (by rw [q45]; exact q))) (by omega) | exact CK_skip hE (Or.inr h_56) (by omega) | exact CK_el hC hE ⟨by omega, hx.2, hk.2⟩ hbb n_61) (by omega)
        exact lp_34 _ _ _ (by omega) hs (CK_0 hC hk hp (fun y a b => h1 y a (by have := hs 44 5 (by decide); omega))) (Nat.lt_succ_self _)
      · skip
        have q5 : W 44 5 = V 44 5 := hs 44 5 (by decide)
        refine j_al0 hX dX1_clearBelow_10 rfl ?_
        refine j_getR (q := 46) hX hG fl_X1_15 rfl rfl (by decide) dX1_clearBelow_11 ?_
        refine j_il2 hX dX1_clearBelow_14 ?_
        refine j_al0 hX dX1_clearBelow_15 rfl ?_
        refine j_il1 hX dX1_clearBelow_16 ?_
        refine j_il2 hX dX1_clearBelow_17 ?_
        refine j_pVL2 (ci := 1) hX hG lk_X1_94 (ok_X1_numberOf (by omega) (by omega)) (by decide) rfl (Nat.le_of_ble_eq_true rfl) (Nat.le_of_ble_eq_true rfl) (Nat.le_of_ble_eq_true rfl) rfl dX1_clearBelow_18 ?_
        refine j_cSV3 hX hG lk_X1_90 (ok_X11_putBits_in (n := 6) (by decide) (by first | assumption | decide) (by omega)) (Nat.le_of_ble_eq_true rfl) (Nat.le_of_ble_eq_true rfl) (Nat.le_of_ble_eq_true rfl) rfl dX1_clearBelow_21 (fun V_21 h_21 => ?_)
        subst h_21
        refine j_inc2 hX dX1_clearBelow_24 rfl (by omega) ?_
        refine j_goto (tgt := 2) hX dX1_clearBelow_27 (by decide) ?_
        exact ih_2 _ _ (by omega) (fr_u hs (by decide)) (lt_stepI (fun y a b => by rw [up_n _ (by omega)]; exact h1 y a b) (by rw [up_s, hs 45 _ (by decide)])) (by omega)
  exact lp_2 _ _ _ (by omega) fr_0 (fun y a b => by omega) (Nat.lt_succ_self _)
set_option maxHeartbeats 4000000 in
theorem ok_X1_writeFraction {V : VV} {x t b : Int} (hx9 : 0 ≤ x ∧ x < 6) (hd : 0 ≤ V 44 6 ∧ V 44 6 ≤ 5) (ht : -1000000000000 ≤ t ∧ t ≤ 1000000000000) (hb : -1000000000000 ≤ b ∧ b ≤ 1000000000000) (hb0 : b ≠ 0) : Ok NC yX1_writeFraction cX1_writeFraction 9 none 2 51 [vA 44, vI x, vL t, vL b] V (pV (fun V' => ∃ T B, LT9 t b T B ∧ V' = up (up V 47 (V 44 6 * 6 + x) T) 48 (V 44 6 * 6 + x) B)) := by
  refine Ok.intro (by decide +kernel) (Nat.le_of_ble_eq_true rfl) (fun X G hX hG hR hoa hoV => ?_)
  show J X G 0 [vA 44, vI x, vL t, vU, vL b, vU, vU, vU, vU] [] V
  have hlt : ∀ s : Int, (s = if b < 0 then -1 else 1) → 0 < (Int.gcd t b : Int) ∧ LT9 t b (s * t.tdiv (Int.gcd t b : Int)) (s * b.tdiv (Int.gcd t b : Int)) := fun s hs => LT_of hb0 hs rfl
  have hd0 := (hlt _ rfl).1
  have htd := tdb9 (d := (Int.gcd t b : Int)) hd0 ht
  have hbd := tdb9 (d := (Int.gcd t b : Int)) hd0 hb
  refine j_ll2 hX dX1_writeFraction_0 ?_
  refine j_ll4 hX dX1_writeFraction_1 ?_
  refine j_pSL2 hX hG lk_X1_104 (ok_X11_commonDivisor (by omega) (by omega)) (Nat.le_of_ble_eq_true rfl) (Nat.le_of_ble_eq_true rfl) (Nat.le_of_ble_eq_true rfl) rfl dX1_writeFraction_3 ?_
  refine j_ls6 hX dX1_writeFraction_6 rfl ?_
  refine j_ll4 hX dX1_writeFraction_8 ?_
  refine j_lconst (x := 0) hX dX1_writeFraction_10 rfl ⟨by decide, by decide⟩ ?_
  refine j_lcmp_ge (tgt := 19) hX dX1_writeFraction_11 dX1_writeFraction_12 (by decide) (fun h_12 => ?_) (fun h_12 => ?_)
  · skip
    refine j_iconst hX dX1_writeFraction_19 ⟨by decide, by decide⟩ ?_
    refine j_is8 hX dX1_writeFraction_20 rfl ?_
    refine j_al0 hX dX1_writeFraction_22 rfl ?_
    refine j_getR (q := 47) hX hG fl_X1_18 rfl rfl (by decide) dX1_writeFraction_23 ?_
    refine j_al0 hX dX1_writeFraction_26 rfl ?_
    refine j_getI hX hG fl_X1_111 (Or.inl rfl) (by decide) dX1_writeFraction_27 ?_
    refine j_bipush hX dX1_writeFraction_30 (by decide) ⟨by decide, by decide⟩ ?_
    refine j_imul hX dX1_writeFraction_32 (by omega) ?_
    refine j_il1 hX dX1_writeFraction_33 ?_
    refine j_iadd hX dX1_writeFraction_34 (by omega) ?_
    refine j_il8 hX dX1_writeFraction_35 ?_
    refine j_i2l hX dX1_writeFraction_37 ?_
    refine j_ll2 hX dX1_writeFraction_38 ?_
    refine j_ll6 hX dX1_writeFraction_39 ?_
    refine j_pSL2 hX hG lk_X1_108 (ok_X11_over ) (Nat.le_of_ble_eq_true rfl) (Nat.le_of_ble_eq_true rfl) (Nat.le_of_ble_eq_true rfl) rfl dX1_writeFraction_41 ?_
    rw [if_pos hd0]
    refine j_lmul hX dX1_writeFraction_44 (by omega) ?_
    refine j_cSV3 hX hG lk_X1_90 (ok_X11_putBits_in (n := 36) (by decide) (by first | assumption | decide) (by omega)) (Nat.le_of_ble_eq_true rfl) (Nat.le_of_ble_eq_true rfl) (Nat.le_of_ble_eq_true rfl) rfl dX1_writeFraction_45 (fun V_45 h_45 => ?_)
    subst h_45
    refine j_al0 hX dX1_writeFraction_48 rfl ?_
    refine j_getR (q := 48) hX hG fl_X1_21 rfl rfl (by decide) dX1_writeFraction_49 ?_
    refine j_al0 hX dX1_writeFraction_52 rfl ?_
    refine j_getI hX hG fl_X1_111 (Or.inl rfl) (by decide) dX1_writeFraction_53 ?_
    refine j_eqS (st' := [vI (V 44 6), vA 48]) (by rw [up_n _ (by omega)]) ?_
    refine j_bipush hX dX1_writeFraction_56 (by decide) ⟨by decide, by decide⟩ ?_
    refine j_imul hX dX1_writeFraction_58 (by omega) ?_
    refine j_il1 hX dX1_writeFraction_59 ?_
    refine j_iadd hX dX1_writeFraction_60 (by omega) ?_
    refine j_il8 hX dX1_writeFraction_61 ?_
    refine j_i2l hX dX1_writeFraction_63 ?_
    refine j_ll4 hX dX1_writeFraction_64 ?_
    refine j_ll6 hX dX1_writeFraction_66 ?_
    refine j_pSL2 hX hG lk_X1_108 (ok_X11_over ) (Nat.le_of_ble_eq_true rfl) (Nat.le_of_ble_eq_true rfl) (Nat.le_of_ble_eq_true rfl) rfl dX1_writeFraction_68 ?_
    rw [if_pos hd0]
    refine j_lmul hX dX1_writeFraction_71 (by omega) ?_
    refine j_cSV3 hX hG lk_X1_90 (ok_X11_putBits_in (n := 36) (by decide) (by first | assumption | decide) (by omega)) (Nat.le_of_ble_eq_true rfl) (Nat.le_of_ble_eq_true rfl) (Nat.le_of_ble_eq_true rfl) rfl dX1_writeFraction_72 (fun V_72 h_72 => ?_)
    subst h_72
    exact j_ret hR dX1_writeFraction_75 ⟨_, _, (hlt _ (by first | rw [if_pos (by omega)] | rw [if_neg (by omega)])).2, rfl⟩
  · skip
    refine j_iconst hX dX1_writeFraction_15 ⟨by decide, by decide⟩ ?_
    refine j_goto (tgt := 20) hX dX1_writeFraction_16 (by decide) ?_
    refine j_is8 hX dX1_writeFraction_20 rfl ?_
    refine j_al0 hX dX1_writeFraction_22 rfl ?_
    refine j_getR (q := 47) hX hG fl_X1_18 rfl rfl (by decide) dX1_writeFraction_23 ?_
    refine j_al0 hX dX1_writeFraction_26 rfl ?_
    refine j_getI hX hG fl_X1_111 (Or.inl rfl) (by decide) dX1_writeFraction_27 ?_
    refine j_bipush hX dX1_writeFraction_30 (by decide) ⟨by decide, by decide⟩ ?_
    refine j_imul hX dX1_writeFraction_32 (by omega) ?_
    refine j_il1 hX dX1_writeFraction_33 ?_
    refine j_iadd hX dX1_writeFraction_34 (by omega) ?_
    refine j_il8 hX dX1_writeFraction_35 ?_
    refine j_i2l hX dX1_writeFraction_37 ?_
    refine j_ll2 hX dX1_writeFraction_38 ?_
    refine j_ll6 hX dX1_writeFraction_39 ?_
    refine j_pSL2 hX hG lk_X1_108 (ok_X11_over ) (Nat.le_of_ble_eq_true rfl) (Nat.le_of_ble_eq_true rfl) (Nat.le_of_ble_eq_true rfl) rfl dX1_writeFraction_41 ?_
    rw [if_pos hd0]
    refine j_lmul hX dX1_writeFraction_44 (by omega) ?_
    refine j_cSV3 hX hG lk_X1_90 (ok_X11_putBits_in (n := 36) (by decide) (by first | assumption | decide) (by omega)) (Nat.le_of_ble_eq_true rfl) (Nat.le_of_ble_eq_true rfl) (Nat.le_of_ble_eq_true rfl) rfl dX1_writeFraction_45 (fun V_45 h_45 => ?_)
    subst h_45
    refine j_al0 hX dX1_writeFraction_48 rfl ?_
    refine j_getR (q := 48) hX hG fl_X1_21 rfl rfl (by decide) dX1_writeFraction_49 ?_
    refine j_al0 hX dX1_writeFraction_52 rfl ?_
    refine j_getI hX hG fl_X1_111 (Or.inl rfl) (by decide) dX1_writeFraction_53 ?_
    refine j_eqS (st' := [vI (V 44 6), vA 48]) (by rw [up_n _ (by omega)]) ?_
    refine j_bipush hX dX1_writeFraction_56 (by decide) ⟨by decide, by decide⟩ ?_
    refine j_imul hX dX1_writeFraction_58 (by omega) ?_
    refine j_il1 hX dX1_writeFraction_59 ?_
    refine j_iadd hX dX1_writeFraction_60 (by omega) ?_
    refine j_il8 hX dX1_writeFraction_61 ?_
    refine j_i2l hX dX1_writeFraction_63 ?_
    refine j_ll4 hX dX1_writeFraction_64 ?_
    refine j_ll6 hX dX1_writeFraction_66 ?_
    refine j_pSL2 hX hG lk_X1_108 (ok_X11_over ) (Nat.le_of_ble_eq_true rfl) (Nat.le_of_ble_eq_true rfl) (Nat.le_of_ble_eq_true rfl) rfl dX1_writeFraction_68 ?_
    rw [if_pos hd0]
    refine j_lmul hX dX1_writeFraction_71 (by omega) ?_
    refine j_cSV3 hX hG lk_X1_90 (ok_X11_putBits_in (n := 36) (by decide) (by first | assumption | decide) (by omega)) (Nat.le_of_ble_eq_true rfl) (Nat.le_of_ble_eq_true rfl) (Nat.le_of_ble_eq_true rfl) rfl dX1_writeFraction_72 (fun V_72 h_72 => ?_)
    subst h_72
    exact j_ret hR dX1_writeFraction_75 ⟨_, _, (hlt _ (by first | rw [if_pos (by omega)] | rw [if_neg (by omega)])).2, rfl⟩
