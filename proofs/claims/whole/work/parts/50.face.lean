def rowB (V : VV) (n : Int) (R : Int → Int) (k : Int) : Int := bkF V (codeF (V 42 2) (fun j => R ((k - V 42 6 + V 42 3 + j) % n)) (V 42 5).toNat)
def itB (V : VV) (n : Int) (R : Int → Int) : Nat → Int → Int
  | 0 => R
  | t + 1 => rowB V n (itB V n R t)
theorem itB_e {V W : VV} {n : Int} {R : Int → Int} (e : W 42 = V 42) (e' : W 43 = V 43) : ∀ t : Nat, itB W n R t = itB V n R t
  | 0 => rfl
  | t + 1 => by
    show rowB W n (itB W n R t) = rowB V n (itB V n R t)
    rw [itB_e e e' t]
    funext k
    unfold rowB bkF
    rw [e, e']
theorem rowB_w {V W : VV} {n : Int} {R : Int → Int} (e : W 42 = V 42) (e' : W 43 = V 43) (h29 : W 29 1 = n) (hn : 1 ≤ n) (hR : ∀ k, 0 ≤ k → k < n → W 30 k = R k) (k : Int) : bkF W (wdB W k) = rowB V n R k := by
  have h : codeF (V 42 2) (fun j => W 30 ((k - V 42 6 + V 42 3 + j) % n)) (V 42 5).toNat = codeF (V 42 2) (fun j => R ((k - V 42 6 + V 42 3 + j) % n)) (V 42 5).toNat := codeF_c _ fun j _ _ => hR _ (md_b _ hn).1 (md_b _ hn).2
  unfold rowB wdB bkF
  rw [e, e', h29, h]
theorem rowB_b {V : VV} {T : Int → Int} {g n m w : Int} {R : Int → Int} {k : Int} (hg : 2 ≤ g ∧ g ≤ 6) (h : IVP V T g m w) (hz : rowB V n R k ≠ -1) : 0 ≤ rowB V n R k ∧ rowB V n R k < g := by
  unfold rowB bkF at hz ⊢
  by_cases q : V 43 (codeF (V 42 2) (fun j => R ((k - V 42 6 + V 42 3 + j) % n)) (V 42 5).toNat) = -1
  · rw [if_pos q] at hz; exact absurd rfl hz
  · rw [if_neg q, h.1]; exact dg_b (by omega)
theorem RO_56g {V W : VV} {r t : Int} (h : RO V r) (h' : RO W t) (h3 : W t 3 = V r 3) (h4 : W t 4 = V r 4) : W t 5 = V r 5 ∧ W t 6 = V r 6 := by
  obtain ⟨-, a, b⟩ := h
  obtain ⟨-, a', b'⟩ := h'
  have h6 : W t 6 = V r 6 := by
    rw [h3] at a'
    rcases a with a | a <;> rcases a' with a' | a'
    · rw [a.2, a'.2]
    · omega
    · omega
    · rw [a.2, a'.2]
  exact ⟨by rw [b, b', h6, h3], h6⟩
theorem LR.cs {α : Type} {V : VV} {x : Int} {r : PR α} {P : α → Prop} (h : LR V x r P) : (x = 0 ∧ ∃ e, r = .error e ∧ V 1 5 = e.1 ∧ V 1 6 = e.2) ∨ (x = 1 ∧ ∃ a, r = .ok a ∧ (V 1 5 = 0 ∧ V 1 6 = -1) ∧ P a) := by
  cases r with
  | ok a => exact Or.inr ⟨h.1, a, rfl, h.2⟩
  | error e => exact Or.inl ⟨h.1, e, rfl, h.2⟩
set_option maxHeartbeats 4000000 in
theorem ok_X11_step {V : VV} {a : Int} (ho9 : RO V 15) (ht : TR V 15) (hn : 1 ≤ V 23 1 ∧ V 23 1 ≤ 16) (hQ : ∀ k, 0 ≤ k → k < V 23 1 → 0 ≤ V 24 k ∧ V 24 k < V 15 3) (hcl : 0 ≤ V 33 5 ∧ V 33 5 ≤ 9) (hcc : 0 ≤ V 33 4 ∧ V 33 4 ≤ 10) : OkX yX11_step cX11_step 3 (some .int) 8 130 [vA 0, vI a] V (pI (fun x9 V' => ((1 ≤ a ∧ a ≤ 100) ∧ x9 = cntI (fun k => V 24 k != V' 24 k) (V 23 1).toNat ∧ (∀ k, 0 ≤ k → k < V 23 1 → V' 24 k = orbF (V 16) (V 15 3) (V 15 4) (V 23 1) (V 24) a.toNat k) ∧ V' 23 1 = V 23 1) ∧ REC V V' (-1) 0 ∧ fr [23, 24, 29, 30, 31, 32, 33, 34, 35, 36, 37] V V')) (fun E V' => (E = exA ∧ (¬ (1 ≤ a ∧ a ≤ 100)) ∧ V' = V)) := by
  refine OkX.intro (by decide +kernel) (Nat.le_of_ble_eq_true rfl) (fun X G hX hG hR hT hoa hoV => ?_)
  show J X G 0 [vA 0, vI a, vU] [] V
  have hb9 := ho9.b
  refine j_il1 hX dX11_step_0 ?_
  refine j_iconst hX dX11_step_1 ⟨by decide, by decide⟩ ?_
  refine j_icmp_lt (tgt := 11) hX dX11_step_2 (by decide) (fun h_2 => ?_) (fun h_2 => ?_)
  · skip
    exact j_throwW (text := "steps is out of range") hX hT th_137 (by decide +kernel) dX11_step_11 dX11_step_14 dX11_step_15 dX11_step_18 dX11_step_21 (by decide) (Nat.le_of_ble_eq_true rfl) rfl ⟨rfl, by omega, rfl⟩
  · skip
    refine j_il1 hX dX11_step_5 ?_
    refine j_bipush hX dX11_step_6 (by decide) ⟨by decide, by decide⟩ ?_
    refine j_icmp_le (tgt := 22) hX dX11_step_8 (by decide) (fun h_8 => ?_) (fun h_8 => ?_)
    · skip
      refine j_al0 hX dX11_step_22 rfl ?_
      refine j_getR (q := 29) hX hG fl_X11_46 rfl rfl (by decide) dX11_step_23 ?_
      refine j_al0 hX dX11_step_26 rfl ?_
      refine j_getR (q := 23) hX hG fl_X11_36 rfl rfl (by decide) dX11_step_27 ?_
      refine j_cVV1 (ci := 7) hX (gNC hG) lk_X11_158 (ok_X7_copy (by decide) (by decide) (by decide) (by omega)) (by decide) rfl (Nat.le_of_ble_eq_true rfl) (Nat.le_of_ble_eq_true rfl) (Nat.le_of_ble_eq_true rfl) rfl dX11_step_30 (fun V_30 h_30 => ?_)
      obtain ⟨a_30, b_30, s_30⟩ := h_30
      dsimp only [Int.reduceAdd] at a_30 b_30 s_30
      have f_30 := fr_s2 s_30
      try dsimp only [Int.reduceAdd]
      refine j_iconst hX dX11_step_33 ⟨by decide, by decide⟩ ?_
      refine j_is2 hX dX11_step_34 rfl ?_
      have lp_35 : ∀ (f9 : Nat) (t : Int) (W : VV), (0 ≤ t ∧ t ≤ a) → (fr [29, 30, 31, 32] V W) → (W 29 1 = V 23 1) → (∀ k, 0 ≤ k → k < V 23 1 → W 30 k = orbF (V 16) (V 15 3) (V 15 4) (V 23 1) (V 24) t.toNat k) → ((a - t).toNat) < f9 → J X G 35 [vA 0, vI a, vI t] [] W := by
        intro f9
        induction f9 with
        | zero => intro t W _ _ _ _ hm; exact absurd hm (Nat.not_lt_zero _)
        | succ f9 ih_35 =>
          intro t W hk hs h29 hTT hm
          refine j_il2 hX dX11_step_35 ?_
          refine j_il1 hX dX11_step_36 ?_
          refine j_icmp_ge (tgt := 72) hX dX11_step_37 (by decide) (fun h_37 => ?_) (fun h_37 => ?_)
          · skip
            have w15 : ∀ b, W 15 b = V 15 b := fun b => hs 15 b (by decide)
            have w16 : W 16 = V 16 := funext fun b => hs 16 b (by decide)
            have w23 : W 23 1 = V 23 1 := hs 23 1 (by decide)
            have w24 : W 24 = V 24 := funext fun b => hs 24 b (by decide)
            have w4 : W 33 4 = V 33 4 := hs 33 4 (by decide)
            have w5 : W 33 5 = V 33 5 := hs 33 5 (by decide)
            refine j_al0 hX dX11_step_72 rfl ?_
            refine j_cVI0 (ci := 11) hX (gNC hG) lk_X11_342 (ok_X11_replaceRing (by omega) (by omega) (by omega) (by omega)) (by decide) rfl (Nat.le_of_ble_eq_true rfl) (Nat.le_of_ble_eq_true rfl) (Nat.le_of_ble_eq_true rfl) rfl dX11_step_73 (fun x_73 V_73 h_73 => ?_)
            obtain ⟨x9_73, rec_73, l_73, b_73, f_73⟩ := h_73
            exact j_retI hR dX11_step_76 ⟨⟨by omega, by rw [x9_73, w24, w23]; exact cntI_c _ (fun k k0 k1 => by rw [b_73 k k0 (by omega)]), fun k k0 k1 => by rw [b_73 k k0 (by omega), hTT k k0 k1, show t = a by omega], by omega⟩, rec_73.c (fun x y hx => hs x y (by simp; omega)) (fun _ _ _ => rfl), fr_t (fr_w hs (by decide)) (fr_w f_73 (by decide))⟩
          · skip
            have w15 : ∀ b, W 15 b = V 15 b := fun b => hs 15 b (by decide)
            have w16 : W 16 = V 16 := funext fun b => hs 16 b (by decide)
            have w23 : W 23 1 = V 23 1 := hs 23 1 (by decide)
            have w24 : W 24 = V 24 := funext fun b => hs 24 b (by decide)
            have w4 : W 33 4 = V 33 4 := hs 33 4 (by decide)
            have w5 : W 33 5 = V 33 5 := hs 33 5 (by decide)
            have roW : RO W 15 := ho9.sm w15
            have trW : TR W 15 := fun e h0 h1 => by rw [show W (15 + 1) e = V (15 + 1) e from congrFun w16 e, w15]; exact ht e h0 (by rw [w15] at h1; exact h1)
            refine j_al0 hX dX11_step_40 rfl ?_
            refine j_getR (q := 31) hX hG fl_X11_49 rfl rfl (by decide) dX11_step_41 ?_
            refine j_al0 hX dX11_step_44 rfl ?_
            refine j_getR (q := 29) hX hG fl_X11_46 rfl rfl (by decide) dX11_step_45 ?_
            refine j_al0 hX dX11_step_48 rfl ?_
            refine j_getR (q := 15) hX hG fl_X11_26 rfl rfl (by decide) dX11_step_49 ?_
            refine j_cVV2 (ci := 7) hX (gNC hG) lk_X11_338 (ok_X7_becomeStepOf roW trW (by omega) (fun k k0 k1 => by rw [h29] at k1; rw [hTT k k0 k1, w15]; exact orbF_b (r := 15) ho9 ht hn.1 hQ t.toNat k k0 k1)) (by decide) rfl (Nat.le_of_ble_eq_true rfl) (Nat.le_of_ble_eq_true rfl) (Nat.le_of_ble_eq_true rfl) rfl dX11_step_52 (fun V_52 h_52 => ?_)
            obtain ⟨a_52, b_52, s_52⟩ := h_52
            have f_52 := fr_s2 s_52
            rw [h29] at a_52 b_52
            rw [w16, w15, w15] at b_52
            refine j_al0 hX dX11_step_55 rfl ?_
            refine j_getR (q := 29) hX hG fl_X11_46 rfl rfl (by decide) dX11_step_56 ?_
            refine j_al0 hX dX11_step_59 rfl ?_
            refine j_getR (q := 31) hX hG fl_X11_49 rfl rfl (by decide) dX11_step_60 ?_
            refine j_cVV1 (ci := 7) hX (gNC hG) lk_X11_158 (ok_X7_copy (by decide) (by decide) (by decide) (by omega)) (by decide) rfl (Nat.le_of_ble_eq_true rfl) (Nat.le_of_ble_eq_true rfl) (Nat.le_of_ble_eq_true rfl) rfl dX11_step_63 (fun V_63 h_63 => ?_)
            obtain ⟨a_63, b_63, s_63⟩ := h_63
            dsimp only [Int.reduceAdd] at a_63 b_63 s_63
            rw [a_52] at a_63 b_63
            have f_63 := fr_s2 s_63
            try dsimp only [Int.reduceAdd]
            refine j_inc2 hX dX11_step_66 rfl (by omega) ?_
            refine j_goto (tgt := 35) hX dX11_step_69 (by decide) ?_
            exact ih_35 _ _ (by omega) (fr_t hs (fr_t (fr_w f_52 (by decide)) (fr_w f_63 (by decide)))) a_63 (fun k k0 k1 => by rw [b_63 k k0 k1, b_52 k k0 k1, show (t + 1).toNat = t.toNat + 1 by omega]; show _ = stepF (V 16) (V 15 3) (V 15 4) (V 23 1) (orbF (V 16) (V 15 3) (V 15 4) (V 23 1) (V 24) t.toNat) k; exact stepF_c hn.1 hTT k0 k1) (by omega)
      exact lp_35 _ _ _ (by omega) (fr_w f_30 (by decide)) a_30 b_30 (Nat.lt_succ_self _)
    · skip
      exact j_throwW (text := "steps is out of range") hX hT th_137 (by decide +kernel) dX11_step_11 dX11_step_14 dX11_step_15 dX11_step_18 dX11_step_21 (by decide) (Nat.le_of_ble_eq_true rfl) rfl ⟨rfl, by omega, rfl⟩
set_option maxHeartbeats 4000000 in
theorem ok_X11_back {V : VV} {a : Int} (ho9 : RO V 15) (ht : TR V 15) (hpk : V 38 3 = V 15 7 → DI (V 16) (V 15 3) (V 15 6) (V 15 5) (V 38 4) ∧ ((V 38 5 = 1 ∧ V 38 4 = 0 ∧ APT (V 16) (V 15 3) (V 15 6) (V 15 5)) ∨ (V 38 5 = 0 ∧ ¬ (V 38 4 = 0 ∧ APT (V 16) (V 15 3) (V 15 6) (V 15 5))))) (hik : V 42 1 = V 15 7 → IVP V (V 16) (V 15 3) (V 15 5) (V 15 4)) (hn : 1 ≤ V 23 1 ∧ V 23 1 ≤ 16) (hQ : ∀ k, 0 ≤ k → k < V 23 1 → 0 ≤ V 24 k ∧ V 24 k < V 15 3) (hcl : 0 ≤ V 33 5 ∧ V 33 5 ≤ 9) (hcc : 0 ≤ V 33 4 ∧ V 33 4 ≤ 10) : OkX yX11_back cX11_back 3 (some .int) 8 158 [vA 0, vI a] V (pI (fun x9 V' => ((1 ≤ a ∧ a ≤ 100) ∧ x9 = cntI (fun k => V 24 k != V' 24 k) (V 23 1).toNat ∧ (∀ k, 0 ≤ k → k < V 23 1 → V' 24 k = itB V' (V 23 1) (V 24) a.toNat k) ∧ (∀ s, 0 ≤ s → s < a → ∀ k, 0 ≤ k → k < V 23 1 → itB V' (V 23 1) (V 24) (s + 1).toNat k ≠ -1) ∧ V' 23 1 = V 23 1) ∧ (V' 42 1 = V 15 7 ∧ IVP V' (V 16) (V 15 3) (V 15 5) (V 15 4) ∧ V' 42 5 ≠ 0) ∧ REC V V' (-1) 0 ∧ (V' 38 3 = V 15 7 ∧ DI (V 16) (V 15 3) (V 15 6) (V 15 5) (V' 38 4) ∧ ((V' 38 5 = 1 ∧ V' 38 4 = 0 ∧ APT (V 16) (V 15 3) (V 15 6) (V 15 5)) ∨ (V' 38 5 = 0 ∧ ¬ (V' 38 4 = 0 ∧ APT (V 16) (V 15 3) (V 15 6) (V 15 5))))) ∧ fr [17, 18, 23, 24, 29, 30, 31, 32, 33, 34, 35, 36, 37, 38, 39, 40, 41, 42, 43] V V')) (fun E V' => (E = exA ∧ ¬ (1 ≤ a ∧ a ≤ 100) ∧ V' = V) ∨ (E = exN ∧ (1 ≤ a ∧ a ≤ 100) ∧ NOI (V 16) (V 15 3) (V 15 5) (V 15 4) ∧ (V' 38 3 = V 15 7 ∧ DI (V 16) (V 15 3) (V 15 6) (V 15 5) (V' 38 4) ∧ ((V' 38 5 = 1 ∧ V' 38 4 = 0 ∧ APT (V 16) (V 15 3) (V 15 6) (V 15 5)) ∨ (V' 38 5 = 0 ∧ ¬ (V' 38 4 = 0 ∧ APT (V 16) (V 15 3) (V 15 6) (V 15 5))))) ∧ (V' 42 1 = V 15 7 → IVP V' (V 16) (V 15 3) (V 15 5) (V 15 4)) ∧ fr [17, 18, 38, 39, 40, 41, 42, 43] V V') ∨ (E = exS ∧ (1 ≤ a ∧ a ≤ 100) ∧ (∃ t, 0 ≤ t ∧ t < a ∧ (∀ s, 0 ≤ s → s < t → ∀ k, 0 ≤ k → k < V 23 1 → itB V' (V 23 1) (V 24) (s + 1).toNat k ≠ -1) ∧ ∃ k, 0 ≤ k ∧ k < V 23 1 ∧ itB V' (V 23 1) (V 24) (t + 1).toNat k = -1) ∧ (V' 42 1 = V 15 7 ∧ IVP V' (V 16) (V 15 3) (V 15 5) (V 15 4) ∧ V' 42 5 ≠ 0) ∧ (V' 38 3 = V 15 7 ∧ DI (V 16) (V 15 3) (V 15 6) (V 15 5) (V' 38 4) ∧ ((V' 38 5 = 1 ∧ V' 38 4 = 0 ∧ APT (V 16) (V 15 3) (V 15 6) (V 15 5)) ∨ (V' 38 5 = 0 ∧ ¬ (V' 38 4 = 0 ∧ APT (V 16) (V 15 3) (V 15 6) (V 15 5))))) ∧ fr [17, 18, 29, 30, 31, 32, 38, 39, 40, 41, 42, 43] V V')) := by
  refine OkX.intro (by decide +kernel) (Nat.le_of_ble_eq_true rfl) (fun X G hX hG hR hT hoa hoV => ?_)
  show J X G 0 [vA 0, vI a, vU] [] V
  have hb9 := ho9.b
  refine j_il1 hX dX11_back_0 ?_
  refine j_iconst hX dX11_back_1 ⟨by decide, by decide⟩ ?_
  refine j_icmp_lt (tgt := 11) hX dX11_back_2 (by decide) (fun h_2 => ?_) (fun h_2 => ?_)
  · skip
    exact j_throwW (text := "steps is out of range") hX hT th_137 (by decide +kernel) dX11_back_11 dX11_back_14 dX11_back_15 dX11_back_18 dX11_back_21 (by decide) (Nat.le_of_ble_eq_true rfl) rfl (Or.inl ⟨rfl, by omega, rfl⟩)
  · skip
    refine j_il1 hX dX11_back_5 ?_
    refine j_bipush hX dX11_back_6 (by decide) ⟨by decide, by decide⟩ ?_
    refine j_icmp_le (tgt := 22) hX dX11_back_8 (by decide) (fun h_8 => ?_) (fun h_8 => ?_)
    · skip
      refine j_al0 hX dX11_back_22 rfl ?_
      refine j_cVI0 (ci := 11) hX (gNC hG) lk_X11_259 (ok_X11_hasInverse (by first | assumption | omega | decide) (by first | assumption | omega | decide) (by first | assumption | omega | decide) (by first | assumption | omega | decide)) (by decide) rfl (Nat.le_of_ble_eq_true rfl) (Nat.le_of_ble_eq_true rfl) (Nat.le_of_ble_eq_true rfl) rfl dX11_back_23 (fun x_23 V_23 h_23 => ?_)
      obtain ⟨r_23, q_23⟩ := h_23
      have l_23 : V_23 23 1 = V 23 1 := q_23.2.2 23 1 (by decide)
      refine j_if_ne (tgt := 40) hX dX11_back_26 (by decide) (fun h_26 => ?_) (fun h_26 => ?_)
      · skip
        have w_23 := r_23.elim (fun q => q.2) (fun q => absurd q.1 h_26)
        have v_23 := w_23.2.1.b hb9.1 w_23.2.2
        have s_23 := w_23.2.1.s hb9.1 w_23.2.2 hb9.2.1
        have t_23 : V_23 42 3 = V 15 4 - 2 := w_23.2.1.2.1
        refine j_al0 hX dX11_back_40 rfl ?_
        refine j_getR (q := 29) hX hG fl_X11_46 rfl rfl (by decide) dX11_back_41 ?_
        refine j_al0 hX dX11_back_44 rfl ?_
        refine j_getR (q := 23) hX hG fl_X11_36 rfl rfl (by decide) dX11_back_45 ?_
        refine j_cVV1 (ci := 7) hX (gNC hG) lk_X11_158 (ok_X7_copy (by decide) (by decide) (by decide) (by omega)) (by decide) rfl (Nat.le_of_ble_eq_true rfl) (Nat.le_of_ble_eq_true rfl) (Nat.le_of_ble_eq_true rfl) rfl dX11_back_48 (fun V_48 h_48 => ?_)
        obtain ⟨a_48, b_48, s_48⟩ := h_48
        dsimp only [Int.reduceAdd] at a_48 b_48 s_48
        rw [l_23] at a_48 b_48
        have f_48 := fr_s2 s_48
        have c_48 : ∀ b, 0 ≤ b → b < V 23 1 → V_48 30 b = V 24 b := fun b b0 b1 => (b_48 b b0 b1).trans (q_23.2.2 24 b (by decide))
        try dsimp only [Int.reduceAdd]
        refine j_iconst hX dX11_back_51 ⟨by decide, by decide⟩ ?_
        refine j_is2 hX dX11_back_52 rfl ?_
        have lp_53 : ∀ (f9 : Nat) (t : Int) (W : VV), (0 ≤ t ∧ t ≤ a) → (fr [29, 30, 31, 32] V_23 W) → (W 29 1 = V 23 1) → (∀ k, 0 ≤ k → k < V 23 1 → W 30 k = itB V_23 (V 23 1) (V 24) t.toNat k ∧ 0 ≤ W 30 k ∧ W 30 k < V 15 3) → (∀ s, 0 ≤ s → s < t → ∀ k, 0 ≤ k → k < V 23 1 → itB V_23 (V 23 1) (V 24) (s + 1).toNat k ≠ -1) → ((a - t).toNat) < f9 → J X G 53 [vA 0, vI a, vI t] [] W := by
          intro f9
          induction f9 with
          | zero => intro t W _ _ _ _ _ hm; exact absurd hm (Nat.not_lt_zero _)
          | succ f9 ih_53 =>
            intro t W hk hs h29 hTT hOK hm
            refine j_il2 hX dX11_back_53 ?_
            refine j_il1 hX dX11_back_54 ?_
            refine j_icmp_ge (tgt := 104) hX dX11_back_55 (by decide) (fun h_55 => ?_) (fun h_55 => ?_)
            · skip
              have w42 : W 42 = V_23 42 := funext fun b => hs 42 b (by decide)
              have w43 : W 43 = V_23 43 := funext fun b => hs 43 b (by decide)
              have w23 : W 23 1 = V 23 1 := (hs 23 1 (by decide)).trans (q_23.2.2 23 1 (by decide))
              have w24 : W 24 = V 24 := funext fun b => (hs 24 b (by decide)).trans (q_23.2.2 24 b (by decide))
              have w4 : W 33 4 = V 33 4 := (hs 33 4 (by decide)).trans (q_23.2.2 33 4 (by decide))
              have w5 : W 33 5 = V 33 5 := (hs 33 5 (by decide)).trans (q_23.2.2 33 5 (by decide))
              refine j_al0 hX dX11_back_104 rfl ?_
              refine j_cVI0 (ci := 11) hX (gNC hG) lk_X11_342 (ok_X11_replaceRing (by omega) (by omega) (by omega) (by omega)) (by decide) rfl (Nat.le_of_ble_eq_true rfl) (Nat.le_of_ble_eq_true rfl) (Nat.le_of_ble_eq_true rfl) rfl dX11_back_105 (fun x_105 V_105 h_105 => ?_)
              obtain ⟨x9_105, rec_105, l_105, b_105, f_105⟩ := h_105
              have u_105 : V_105 42 = V_23 42 := (funext fun b => f_105 42 b (by decide)).trans w42
              have u2_105 : V_105 43 = V_23 43 := (funext fun b => f_105 43 b (by decide)).trans w43
              have u3_105 : V_105 38 = V_23 38 := funext fun b => (f_105 38 b (by decide)).trans (hs 38 b (by decide))
              exact j_retI hR dX11_back_108 (by
        refine ⟨⟨by omega, by rw [x9_105, w24, w23]; exact cntI_c _ (fun k k0 k1 => by rw [b_105 k k0 (by omega)]), fun k k0 k1 => by rw [b_105 k k0 (by omega), itB_e u_105 u2_105, (hTT k k0 k1).1, show t = a by omega], fun s s0 s1 j j0 j1 => ?_, by omega⟩, ?_, rec_105.c (fun x y hx => (hs x y (by simp; omega)).trans (q_23.2.2 x y (by simp; omega))) (fun _ _ _ => rfl), ?_, ?_⟩
        · rw [itB_e u_105 u2_105]; exact hOK s s0 (by omega) j j0 j1
        · rw [u_105]; exact ⟨w_23.1, w_23.2.1.sm u_105 u2_105, w_23.2.2⟩
        · rw [u3_105]; exact q_23.1
        · exact fr_t (fr_w q_23.2.2 (by decide)) (fr_t (fr_w hs (by decide)) (fr_w f_105 (by decide))))
            · skip
              have w42 : W 42 = V_23 42 := funext fun b => hs 42 b (by decide)
              have w43 : W 43 = V_23 43 := funext fun b => hs 43 b (by decide)
              have w23 : W 23 1 = V 23 1 := (hs 23 1 (by decide)).trans (q_23.2.2 23 1 (by decide))
              have w24 : W 24 = V 24 := funext fun b => (hs 24 b (by decide)).trans (q_23.2.2 24 b (by decide))
              have w4 : W 33 4 = V 33 4 := (hs 33 4 (by decide)).trans (q_23.2.2 33 4 (by decide))
              have w5 : W 33 5 = V 33 5 := (hs 33 5 (by decide)).trans (q_23.2.2 33 5 (by decide))
              have e9 : ∀ k, 0 ≤ k → k < V 23 1 → bkF W (wdB W k) = itB V_23 (V 23 1) (V 24) (t + 1).toNat k := fun k k0 k1 => by
                rw [show (t + 1).toNat = t.toNat + 1 by omega]
                exact rowB_w w42 w43 h29 hn.1 (fun j j0 j1 => (hTT j j0 j1).1) k
              refine j_al0 hX dX11_back_58 rfl ?_
              refine j_getR (q := 42) hX hG fl_X11_69 rfl rfl (by decide) dX11_back_59 ?_
              refine j_al0 hX dX11_back_62 rfl ?_
              refine j_getR (q := 29) hX hG fl_X11_46 rfl rfl (by decide) dX11_back_63 ?_
              refine j_al0 hX dX11_back_66 rfl ?_
              refine j_getR (q := 31) hX hG fl_X11_49 rfl rfl (by decide) dX11_back_67 ?_
              refine j_cVI2 (ci := 3) hX (gNC hG) lk_X11_345 (ok_X3_stepBack (by rw [w42, v_23.1]; exact hb9.1) (by rw [w42]; exact v_23.2) (by rw [w42]; exact s_23.1) (by rw [w43]; exact s_23.2) (by rw [w42]; omega) (by omega) (fun k k0 k1 => by rw [w42, v_23.1]; exact (hTT k k0 (by omega)).2)) (by decide) rfl (Nat.le_of_ble_eq_true rfl) (Nat.le_of_ble_eq_true rfl) (Nat.le_of_ble_eq_true rfl) rfl dX11_back_70 (fun x_70 V_70 h_70 => ?_)
              obtain ⟨r_70, l_70, f_70⟩ := h_70
              rw [h29] at r_70 l_70
              have u_70 : V_70 42 = V_23 42 := (funext fun b => f_70 42 b (by decide)).trans w42
              have u2_70 : V_70 43 = V_23 43 := (funext fun b => f_70 43 b (by decide)).trans w43
              have u3_70 : V_70 38 = V_23 38 := funext fun b => (f_70 38 b (by decide)).trans (hs 38 b (by decide))
              refine j_if_ne (tgt := 87) hX dX11_back_73 (by decide) (fun h_73 => ?_) (fun h_73 => ?_)
              · skip
                have g_70 := r_70.elim (fun q => q.2) (fun q => absurd q.1 h_73)
                refine j_al0 hX dX11_back_87 rfl ?_
                refine j_getR (q := 29) hX hG fl_X11_46 rfl rfl (by decide) dX11_back_88 ?_
                refine j_al0 hX dX11_back_91 rfl ?_
                refine j_getR (q := 31) hX hG fl_X11_49 rfl rfl (by decide) dX11_back_92 ?_
                refine j_cVV1 (ci := 7) hX (gNC hG) lk_X11_158 (ok_X7_copy (by decide) (by decide) (by decide) (by omega)) (by decide) rfl (Nat.le_of_ble_eq_true rfl) (Nat.le_of_ble_eq_true rfl) (Nat.le_of_ble_eq_true rfl) rfl dX11_back_95 (fun V_95 h_95 => ?_)
                obtain ⟨a_95, b_95, s_95⟩ := h_95
                dsimp only [Int.reduceAdd] at a_95 b_95 s_95
                rw [l_70] at a_95 b_95
                have f_95 := fr_s2 s_95
                try dsimp only [Int.reduceAdd]
                refine j_inc2 hX dX11_back_98 rfl (by omega) ?_
                refine j_goto (tgt := 53) hX dX11_back_101 (by decide) ?_
                exact ih_53 _ _ (by omega) (fr_t hs (fr_t (fr_w f_70 (by decide)) (fr_w f_95 (by decide)))) a_95 (fun k k0 k1 => by have z := g_70 k k0 k1; rw [b_95 k k0 k1, z.2, e9 k k0 k1]; exact ⟨rfl, rowB_b hb9.1 w_23.2.1 (n := V 23 1) (R := itB V_23 (V 23 1) (V 24) t.toNat) (by have z1 := z.1; rw [e9 k k0 k1, show (t + 1).toNat = t.toNat + 1 by omega] at z1; exact z1) |> fun y => by rw [show (t + 1).toNat = t.toNat + 1 by omega]; exact y⟩) (lt_stepI hOK (fun k k0 k1 => by rw [← e9 k k0 k1]; exact (g_70 k k0 k1).1)) (by omega)
              · skip
                exact j_throwW (text := "the inverse rule has no state for a word") hX hT th_118 (by decide +kernel) dX11_back_76 dX11_back_79 dX11_back_80 dX11_back_83 dX11_back_86 (by decide) (Nat.le_of_ble_eq_true rfl) rfl (by
        obtain ⟨k, k0, k1, k2⟩ : ∃ k, 0 ≤ k ∧ k < V 23 1 ∧ bkF W (wdB W k) = -1 := r_70.elim (fun q => absurd q.1 (by omega)) (fun q => q.2)
        refine Or.inr (Or.inr ⟨rfl, by omega, ⟨t, hk.1, by omega, fun s s0 s1 j j0 j1 => ?_, k, k0, k1, ?_⟩, ?_, ?_, ?_⟩)
        · rw [itB_e u_70 u2_70]; exact hOK s s0 s1 j j0 j1
        · rw [itB_e u_70 u2_70, ← e9 k k0 k1]; exact k2
        · rw [u_70]; exact ⟨w_23.1, w_23.2.1.sm u_70 u2_70, w_23.2.2⟩
        · rw [u3_70]; exact q_23.1
        · exact fr_t (fr_w q_23.2.2 (by decide)) (fr_t (fr_w hs (by decide)) (fr_w f_70 (by decide))))
        exact lp_53 _ _ _ (by omega) (fr_w f_48 (by decide)) a_48 (fun k k0 k1 => ⟨c_48 k k0 k1, by rw [c_48 k k0 k1]; exact hQ k k0 k1⟩) (fun s s0 s1 => by omega) (Nat.lt_succ_self _)
      · skip
        exact j_throwN (text := "there is no inverse rule") hX hT (by decide +kernel) dX11_back_29 dX11_back_32 dX11_back_33 dX11_back_36 dX11_back_39 (by decide) (Nat.le_of_ble_eq_true rfl) rfl (Or.inr (Or.inl ⟨rfl, by omega, (r_23.elim (fun q => absurd q.1 (by omega)) (fun q => q.2)), q_23⟩))
    · skip
      exact j_throwW (text := "steps is out of range") hX hT th_137 (by decide +kernel) dX11_back_11 dX11_back_14 dX11_back_15 dX11_back_18 dX11_back_21 (by decide) (Nat.le_of_ble_eq_true rfl) rfl (Or.inl ⟨rfl, by omega, rfl⟩)
set_option maxHeartbeats 4000000 in
theorem ok_X11_load {V : VV} (htb : TB V) (hv : 0 ≤ V 6 7 ∧ V 6 7 ≤ 800000) (hv15 : 0 ≤ V 15 7 ∧ V 15 7 ≤ 1000000) : OkX yX11_load cX11_load 2 (some .int) 8 169 [vA 0] V (pI (fun x9 V' => x9 = V' 23 1 ∧ (∃ r, pAll (V 3) (V 2 1) = .ok r ∧ GP V' 13 r.1 ∧ RO V' 15 ∧ TR V' 15 ∧ V' 15 3 = gO r.1 ∧ V' 15 4 = r.2.1 ∧ (∀ e, 0 ≤ e → e < V' 15 5 → V' 16 e = casT r.2.2.2.1 (tabF r.1 r.2.1 0 r.2.2.1) e) ∧ V' 23 1 = r.2.2.2.2.length ∧ (1 ≤ V' 23 1 ∧ V' 23 1 ≤ 16) ∧ ∀ k, 0 ≤ k → k < V' 23 1 → V' 24 k = r.2.2.2.2.getD k.toNat 0 ∧ 0 ≤ V' 24 k ∧ V' 24 k < gO r.1) ∧ (V' 1 5 = 0 ∧ V' 1 6 = -1 ∧ V' 15 7 = V 15 7 + 1 ∧ V' 25 1 = 0 ∧ V' 27 1 = 0 ∧ V' 33 4 = 0 ∧ V' 2 1 = 0 ∧ V 6 7 ≤ V' 6 7 ∧ V' 6 7 ≤ V 6 7 + 22 ∧ ∀ b, b ≠ 4 → V' 33 b = V 33 b) ∧ fr [1, 2, 4, 5, 6, 7, 10, 11, 12, 13, 14, 15, 16, 23, 24, 25, 27, 33] V V')) (fun E V' => (E = exA ∧ (∃ e, pAll (V 3) (V 2 1) = .error e ∧ V' 1 5 = e.1 ∧ V' 1 6 = e.2) ∧ V' 2 1 = 0 ∧ (V 6 7 ≤ V' 6 7 ∧ V' 6 7 ≤ V 6 7 + 22) ∧ fr [1, 2, 4, 5, 6, 7, 10, 11, 12] V V')) := by
  refine OkX.intro (by decide +kernel) (Nat.le_of_ble_eq_true rfl) (fun X G hX hG hR hT hoa hoV => ?_)
  show J X G 0 [vA 0, vU] [] V
  refine j_al0 hX dX11_load_0 rfl ?_
  refine j_getR (q := 1) hX hG fl_X11_10 rfl rfl (by decide) dX11_load_1 ?_
  refine j_cVI0 (ci := 4) hX (gNC hG) lk_X11_133 (ok_X4_read htb (by first | assumption | omega | decide)) (by decide) rfl (Nat.le_of_ble_eq_true rfl) (Nat.le_of_ble_eq_true rfl) (Nat.le_of_ble_eq_true rfl) rfl dX11_load_4 (fun x_4 V_4 h_4 => ?_)
  obtain ⟨r_4, l_4, f_4, v_4, w_4⟩ := h_4
  have c_4 := r_4.cs
  refine j_is1 hX dX11_load_7 rfl ?_
  refine j_al0 hX dX11_load_8 rfl ?_
  refine j_getR (q := 1) hX hG fl_X11_10 rfl rfl (by decide) dX11_load_9 ?_
  refine j_getR (q := 2) hX hG fl_X11_108 rfl rfl (by decide) dX11_load_12 ?_
  refine j_iconst hX dX11_load_15 ⟨by decide, by decide⟩ ?_
  refine j_putI hX hG fp_X11_112 rfl (by decide) dX11_load_16 ?_
  obtain ⟨U, hU⟩ : ∃ U, U = up V_4 2 1 0 := ⟨_, rfl⟩
  rw [← hU]
  have fU : fr [2] V_4 U := by rw [hU]; exact fr_u fr_0 (by decide)
  have u21 : U 2 1 = 0 := by rw [hU]; exact up_s ..
  clear hU
  refine j_il1 hX dX11_load_19 ?_
  refine j_if_ne (tgt := 33) hX dX11_load_20 (by decide) (fun h_20 => ?_) (fun h_20 => ?_)
  · skip
    obtain ⟨r, er, z_4, g_4, o_4, t_4, p3_4, p4_4, e_4, n_4, b_4, k_4⟩ := c_4.elim (fun q => absurd q.1 h_20) (fun q => q.2)
    have g_U : GP U 4 r.1 := g_4.sm (fun b => fU 4 b (by decide)) (fun b => fU 5 b (by decide))
    have o_U : RO U 6 := o_4.sm fun b => fU 6 b (by decide)
    refine j_al0 hX dX11_load_33 rfl ?_
    refine j_getR (q := 13) hX hG fl_X11_19 rfl rfl (by decide) dX11_load_34 ?_
    refine j_al0 hX dX11_load_37 rfl ?_
    refine j_getR (q := 1) hX hG fl_X11_10 rfl rfl (by decide) dX11_load_38 ?_
    refine j_getR (q := 4) hX hG fl_X11_142 rfl rfl (by decide) dX11_load_41 ?_
    refine j_cVV1 (ci := 2) hX (gNC hG) lk_X11_145 (ok_X2_copy g_U) (by decide) rfl (Nat.le_of_ble_eq_true rfl) (Nat.le_of_ble_eq_true rfl) (Nat.le_of_ble_eq_true rfl) rfl dX11_load_44 (fun V_44 h_44 => ?_)
    obtain ⟨g_44, s_44⟩ := h_44
    have f_44 := fr_s2 s_44
    have ro_44 : RO V_44 6 := o_U.sm fun b => f_44 6 b (by decide)
    have v_44 : V_44 15 7 = V 15 7 := (f_44 15 7 (by decide)).trans ((fU 15 7 (by decide)).trans (f_4 15 7 (by decide)))
    refine j_al0 hX dX11_load_47 rfl ?_
    refine j_getR (q := 15) hX hG fl_X11_26 rfl rfl (by decide) dX11_load_48 ?_
    refine j_al0 hX dX11_load_51 rfl ?_
    refine j_getR (q := 1) hX hG fl_X11_10 rfl rfl (by decide) dX11_load_52 ?_
    refine j_getR (q := 6) hX hG fl_X11_149 rfl rfl (by decide) dX11_load_55 ?_
    refine j_cVV1 (ci := 8) hX (gNC hG) lk_X11_152 (ok_X8_copy ro_44 (by omega)) (by decide) rfl (Nat.le_of_ble_eq_true rfl) (Nat.le_of_ble_eq_true rfl) (Nat.le_of_ble_eq_true rfl) rfl dX11_load_58 (fun V_58 h_58 => ?_)
    obtain ⟨o_58, p3_58, p4_58, p7_58, t_58, s_58⟩ := h_58
    have f_58 := fr_s2 s_58
    obtain ⟨p5_58, p6_58⟩ := RO_56g ro_44 o_58 p3_58 p4_58
    have l_58 : V_58 10 1 = V_4 10 1 := (f_58 10 1 (by decide)).trans ((f_44 10 1 (by decide)).trans (fU 10 1 (by decide)))
    refine j_al0 hX dX11_load_61 rfl ?_
    refine j_getR (q := 23) hX hG fl_X11_36 rfl rfl (by decide) dX11_load_62 ?_
    refine j_al0 hX dX11_load_65 rfl ?_
    refine j_getR (q := 1) hX hG fl_X11_10 rfl rfl (by decide) dX11_load_66 ?_
    refine j_getR (q := 10) hX hG fl_X11_155 rfl rfl (by decide) dX11_load_69 ?_
    refine j_cVV1 (ci := 7) hX (gNC hG) lk_X11_158 (ok_X7_copy (by decide) (by decide) (by decide) (by omega)) (by decide) rfl (Nat.le_of_ble_eq_true rfl) (Nat.le_of_ble_eq_true rfl) (Nat.le_of_ble_eq_true rfl) rfl dX11_load_72 (fun V_72 h_72 => ?_)
    obtain ⟨a_72, b_72, s_72⟩ := h_72
    dsimp only [Int.reduceAdd] at a_72 b_72 s_72
    rw [l_58] at a_72 b_72
    have f_72 := fr_s2 s_72
    try dsimp only [Int.reduceAdd]
    refine j_al0 hX dX11_load_75 rfl ?_
    refine j_getR (q := 25) hX hG fl_X11_40 rfl rfl (by decide) dX11_load_76 ?_
    refine j_iconst hX dX11_load_79 ⟨by decide, by decide⟩ ?_
    refine j_putI hX hG fp_X11_161 rfl (by decide) dX11_load_80 ?_
    refine j_al0 hX dX11_load_83 rfl ?_
    refine j_getR (q := 27) hX hG fl_X11_43 rfl rfl (by decide) dX11_load_84 ?_
    refine j_iconst hX dX11_load_87 ⟨by decide, by decide⟩ ?_
    refine j_putI hX hG fp_X11_161 rfl (by decide) dX11_load_88 ?_
    refine j_al0 hX dX11_load_91 rfl ?_
    refine j_getR (q := 33) hX hG fl_X11_55 rfl rfl (by decide) dX11_load_92 ?_
    refine j_iconst hX dX11_load_95 ⟨by decide, by decide⟩ ?_
    refine j_putI hX hG fp_X11_162 rfl (by decide) dX11_load_96 ?_
    refine j_al0 hX dX11_load_99 rfl ?_
    refine j_getR (q := 23) hX hG fl_X11_36 rfl rfl (by decide) dX11_load_100 ?_
    refine j_getI hX hG fl_X11_161 (Or.inl rfl) (by decide) dX11_load_103 ?_
    exact j_retI hR dX11_load_106 (by
      obtain ⟨U2, hU2⟩ : ∃ U2, U2 = up (up (up V_72 25 1 0) 27 1 0) 33 4 0 := ⟨_, rfl⟩
      rw [← hU2]
      have fU2 : fr [25, 27, 33] V_72 U2 := by rw [hU2]; exact fr_u (fr_u (fr_u fr_0 (by decide)) (by decide)) (by decide)
      have m25 : U2 25 1 = 0 := by rw [hU2, up_n _ (by decide), up_n _ (by decide), up_s]
      have m27 : U2 27 1 = 0 := by rw [hU2, up_n _ (by decide), up_s]
      have m33 : U2 33 4 = 0 := by rw [hU2, up_s]
      have m3 : ∀ b, b ≠ 4 → U2 33 b = V_72 33 b := fun b hb => by rw [hU2, up_n _ (by omega), up_n _ (by omega), up_n _ (by omega)]
      clear hU2
      have c23 : U2 23 1 = V_4 10 1 := (fU2 23 1 (by decide)).trans a_72
      have c15 : ∀ b, U2 15 b = V_58 15 b := fun b => (fU2 15 b (by decide)).trans (f_72 15 b (by decide))
      have c6 : ∀ b, V_44 6 b = V_4 6 b := fun b => (f_44 6 b (by decide)).trans (fU 6 b (by decide))
      have c7 : ∀ b, V_44 7 b = V_4 7 b := fun b => (f_44 7 b (by decide)).trans (fU 7 b (by decide))
      have c11 : ∀ b, V_58 11 b = V_4 11 b := fun b => (f_58 11 b (by decide)).trans ((f_44 11 b (by decide)).trans (fU 11 b (by decide)))
      have c1 : ∀ b, U2 1 b = V_4 1 b := fun b => (fU2 1 b (by decide)).trans ((f_72 1 b (by decide)).trans ((f_58 1 b (by decide)).trans ((f_44 1 b (by decide)).trans (fU 1 b (by decide)))))
      have c16 : ∀ e, 0 ≤ e → e < V_4 6 5 → U2 16 e = V_4 7 e := fun e e0 e1 => by rw [fU2 16 e (by decide), f_72 16 e (by decide), t_58 e e0 (by rw [c6]; exact e1), c7]
      have c5 : V_58 15 5 = V_4 6 5 := p5_58.trans (c6 5)
      have c67 : U2 6 7 = V_4 6 7 := (fU2 6 7 (by decide)).trans ((f_72 6 7 (by decide)).trans ((f_58 6 7 (by decide)).trans (c6 7)))
      have fA : fr [1, 2, 4, 5, 6, 7, 10, 11, 12, 13, 14, 15, 16, 23, 24] V V_72 := fr_t (fr_w f_4 (by decide)) (fr_t (fr_w fU (by decide)) (fr_t (fr_w f_44 (by decide)) (fr_t (fr_w f_58 (by decide)) (fr_w f_72 (by decide)))))
      refine ⟨rfl, ⟨r, er, ?_, ?_, ?_, ?_, ?_, ?_, ?_, ?_, ?_⟩, ⟨?_, ?_, ?_, m25, m27, m33, ?_, ?_, ?_, ?_⟩, ?_⟩
      · exact g_44.sm (fun b => (fU2 13 b (by decide)).trans ((f_72 13 b (by decide)).trans (f_58 13 b (by decide)))) (fun b => (fU2 14 b (by decide)).trans ((f_72 14 b (by decide)).trans (f_58 14 b (by decide))))
      · exact o_58.sm c15
      · intro e e0 e1
        show 0 ≤ U2 16 e ∧ U2 16 e < U2 15 3
        rw [c15, c5] at e1
        rw [c16 e e0 e1, c15, p3_58, c6]
        exact t_4 e e0 e1
      · rw [c15, p3_58, c6]; exact p3_4
      · rw [c15, p4_58, c6]; exact p4_4
      · intro e e0 e1
        rw [c15, c5] at e1
        rw [c16 e e0 e1]; exact e_4 e e0 e1
      · rw [c23]; exact n_4
      · rw [c23]; exact b_4
      · intro k k0 k1
        rw [c23] at k1
        rw [fU2 24 k (by decide), b_72 k k0 k1, c11]; exact k_4 k k0 k1
      · rw [c1]; exact z_4.1
      · rw [c1]; exact z_4.2
      · rw [c15, p7_58, v_44]
      · rw [fU2 2 1 (by decide), f_72 2 1 (by decide), f_58 2 1 (by decide), f_44 2 1 (by decide)]; exact u21
      · rw [c67]; exact v_4
      · rw [c67]; exact w_4
      · intro b hb
        rw [m3 b hb]; exact fA 33 b (by decide)
      · exact fr_t (fr_w fA (by decide)) (fr_w fU2 (by decide)))
  · skip
    exact j_throw (text := "the text has an error") hX hT th_137 (by decide +kernel) dX11_load_23 dX11_load_26 dX11_load_27 dX11_load_29 dX11_load_32 (by decide) (Nat.le_of_ble_eq_true rfl) rfl (by obtain ⟨e, e0, e1, e2⟩ := c_4.elim (fun q => q.2) (fun q => absurd q.1 (by omega)); exact ⟨rfl, ⟨e, e0, (fU 1 5 (by decide)).trans e1, (fU 1 6 (by decide)).trans e2⟩, u21, by rw [fU 6 7 (by decide)]; exact ⟨v_4, w_4⟩, fr_t f_4 (fr_w fU (by decide))⟩)
