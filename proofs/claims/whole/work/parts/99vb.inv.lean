/-! the inverse rule: the contracts once more, with the version that it is kept for; the class's and the model's are one; what a call of it keeps of the link -/
set_option maxHeartbeats 4000000 in
theorem ok_X11_hasInverse_T {V : VV} (ho9 : RO V 15) (ht : TR V 15) (hpk : V 38 3 = V 15 7 → DI (V 16) (V 15 3) (V 15 6) (V 15 5) (V 38 4) ∧ ((V 38 5 = 1 ∧ V 38 4 = 0 ∧ APT (V 16) (V 15 3) (V 15 6) (V 15 5)) ∨ (V 38 5 = 0 ∧ ¬ (V 38 4 = 0 ∧ APT (V 16) (V 15 3) (V 15 6) (V 15 5))))) (hik : V 42 1 = V 15 7 → IVP V (V 16) (V 15 3) (V 15 5) (V 15 4)) : Ok NC yX11_hasInverse cX11_hasInverse 1 (some .boolean) 6 138 [vA 0] V (pI (fun x9 V' => ((x9 = 1 ∧ V' 42 1 = V 15 7 ∧ IVP V' (V 16) (V 15 3) (V 15 5) (V 15 4) ∧ V' 42 5 ≠ 0) ∨ (x9 = 0 ∧ NOI (V 16) (V 15 3) (V 15 5) (V 15 4))) ∧ (V' 38 3 = V 15 7 ∧ DI (V 16) (V 15 3) (V 15 6) (V 15 5) (V' 38 4) ∧ ((V' 38 5 = 1 ∧ V' 38 4 = 0 ∧ APT (V 16) (V 15 3) (V 15 6) (V 15 5)) ∨ (V' 38 5 = 0 ∧ ¬ (V' 38 4 = 0 ∧ APT (V 16) (V 15 3) (V 15 6) (V 15 5))))) ∧ ((V' 42 1 = V 15 7 → IVP V' (V 16) (V 15 3) (V 15 5) (V 15 4)) ∧ (V' 42 1 = V 42 1 ∨ V' 42 1 = V 15 7)) ∧ fr [17, 18, 38, 39, 40, 41, 42, 43] V V')) := by
  refine Ok.intro (by decide +kernel) (Nat.le_of_ble_eq_true rfl) (fun X G hX hG hR hoa hoV => ?_)
  show J X G 0 [vA 0] [] V
  have hb9 := ho9.b
  refine j_al0 hX dX11_hasInverse_0 rfl ?_
  refine j_getR (q := 38) hX hG fl_X11_62 rfl rfl (by decide) dX11_hasInverse_1 ?_
  refine j_al0 hX dX11_hasInverse_4 rfl ?_
  refine j_getR (q := 15) hX hG fl_X11_26 rfl rfl (by decide) dX11_hasInverse_5 ?_
  refine j_cVV1 (ci := 6) hX hG lk_X11_244 (ok_X6_prepare (by first | assumption | omega | decide) (by first | assumption | omega | decide) (by first | assumption | omega | decide)) (by decide) rfl (Nat.le_of_ble_eq_true rfl) (Nat.le_of_ble_eq_true rfl) (Nat.le_of_ble_eq_true rfl) rfl dX11_hasInverse_8 (fun V_8 h_8 => ?_)
  obtain ⟨a_8, b_8, c_8, f_8⟩ := h_8
  have e15 : ∀ b, V_8 15 b = V 15 b := fun b => f_8 15 b (by decide)
  have e16 : V_8 16 = V 16 := funext fun b => f_8 16 b (by decide)
  have e42 : V_8 42 = V 42 := funext fun b => f_8 42 b (by decide)
  have e43 : V_8 43 = V 43 := funext fun b => f_8 43 b (by decide)
  have ro8 : RO V_8 15 := ho9.sm e15
  have tr8 : TR V_8 15 := fun e h0 h1 => by rw [show V_8 (15 + 1) e = V (15 + 1) e from congrFun e16 e, e15]; exact ht e h0 (by rw [e15] at h1; exact h1)
  have ik8 : V_8 42 1 = V_8 15 7 → IVP V_8 (V_8 16) (V_8 15 3) (V_8 15 5) (V_8 15 4) := by rw [e16, e15, e15, e15, e15, e42]; exact fun q => (hik q).sm e42 e43
  refine j_al0 hX dX11_hasInverse_11 rfl ?_
  refine j_getR (q := 38) hX hG fl_X11_62 rfl rfl (by decide) dX11_hasInverse_12 ?_
  refine j_getI hX hG fl_X11_250 (Or.inr rfl) (by decide) dX11_hasInverse_15 ?_
  refine j_if_ne (tgt := 23) hX dX11_hasInverse_18 (by decide) (fun h_18 => ?_) (fun h_18 => ?_)
  · skip
    refine j_al0 hX dX11_hasInverse_23 rfl ?_
    refine j_getR (q := 42) hX hG fl_X11_69 rfl rfl (by decide) dX11_hasInverse_24 ?_
    refine j_al0 hX dX11_hasInverse_27 rfl ?_
    refine j_getR (q := 15) hX hG fl_X11_26 rfl rfl (by decide) dX11_hasInverse_28 ?_
    refine j_cVV1 (ci := 3) hX hG lk_X11_379 (ok_X3_prepare ro8 tr8 ik8) (by decide) rfl (Nat.le_of_ble_eq_true rfl) (Nat.le_of_ble_eq_true rfl) (Nat.le_of_ble_eq_true rfl) rfl dX11_hasInverse_31 (fun V_31 h_31 => ?_)
    obtain ⟨a_31, b_31, f_31⟩ := h_31
    rw [e15] at a_31
    rw [e16, e15, e15, e15] at b_31
    have a2_31 : V_31 38 3 = V 15 7 := (f_31 38 3 (by decide)).trans a_8
    have e4_31 : V_31 38 4 = V_8 38 4 := f_31 38 4 (by decide)
    have e5_31 : V_31 38 5 = V_8 38 5 := f_31 38 5 (by decide)
    rw [← e4_31] at b_8
    rw [← e4_31, ← e5_31] at c_8
    have g_31 : fr [17, 18, 38, 39, 40, 41, 42, 43] V V_31 := fr_t (fr_w f_8 (by decide)) (fr_w f_31 (by decide))
    have v_31 : V_31 42 5 = 0 ∨ 1 ≤ V_31 42 5 := b_31.v
    refine j_al0 hX dX11_hasInverse_34 rfl ?_
    refine j_getR (q := 42) hX hG fl_X11_69 rfl rfl (by decide) dX11_hasInverse_35 ?_
    refine j_getI hX hG fl_X11_264 (Or.inl rfl) (by decide) dX11_hasInverse_38 ?_
    refine j_if_le (tgt := 48) hX dX11_hasInverse_41 (by decide) (fun h_41 => ?_) (fun h_41 => ?_)
    · skip
      refine j_iconst hX dX11_hasInverse_48 ⟨by decide, by decide⟩ ?_
      exact j_retZ hR dX11_hasInverse_49 (by omega) (by first | exact ⟨Or.inl ⟨rfl, a_31, b_31, by omega⟩, ⟨a2_31, b_8, c_8⟩, ⟨fun _ => b_31, Or.inr a_31⟩, g_31⟩ | exact ⟨Or.inr ⟨rfl, NOI_2 b_31 (by omega)⟩, ⟨a2_31, b_8, c_8⟩, ⟨fun _ => b_31, Or.inr a_31⟩, g_31⟩)
    · skip
      refine j_iconst hX dX11_hasInverse_44 ⟨by decide, by decide⟩ ?_
      refine j_goto (tgt := 49) hX dX11_hasInverse_45 (by decide) ?_
      exact j_retZ hR dX11_hasInverse_49 (by omega) (by first | exact ⟨Or.inl ⟨rfl, a_31, b_31, by omega⟩, ⟨a2_31, b_8, c_8⟩, ⟨fun _ => b_31, Or.inr a_31⟩, g_31⟩ | exact ⟨Or.inr ⟨rfl, NOI_2 b_31 (by omega)⟩, ⟨a2_31, b_8, c_8⟩, ⟨fun _ => b_31, Or.inr a_31⟩, g_31⟩)
  · skip
    refine j_iconst hX dX11_hasInverse_21 ⟨by decide, by decide⟩ ?_
    exact j_retZ hR dX11_hasInverse_22 (by omega) ⟨Or.inr ⟨rfl, NOI_1 ho9 b_8 (by rcases c_8 with q | q; (exfalso; have := q.1; omega); exact q.2)⟩, ⟨a_8, b_8, c_8⟩, ⟨(fun q => by rw [e42] at q; exact (hik q).sm e42 e43), Or.inl (by rw [e42])⟩, fr_w f_8 (by decide)⟩
set_option maxHeartbeats 4000000 in
theorem ok_X11_inverse_T {V : VV} {a : Int} (ho9 : RO V 15) (ht : TR V 15) (hpk : V 38 3 = V 15 7 → DI (V 16) (V 15 3) (V 15 6) (V 15 5) (V 38 4) ∧ ((V 38 5 = 1 ∧ V 38 4 = 0 ∧ APT (V 16) (V 15 3) (V 15 6) (V 15 5)) ∨ (V 38 5 = 0 ∧ ¬ (V 38 4 = 0 ∧ APT (V 16) (V 15 3) (V 15 6) (V 15 5))))) (hik : V 42 1 = V 15 7 → IVP V (V 16) (V 15 3) (V 15 5) (V 15 4)) : OkX yX11_inverse cX11_inverse 2 (some .int) 8 158 [vA 0, vI a] V (pI (fun x9 V' => ((a = 0 ∧ x9 = V' 42 5) ∨ (a = 1 ∧ x9 = V' 42 6) ∨ (a = 2 ∧ x9 = cntI (fun c => V' 43 c != -1) (V' 42 2 ^ (V' 42 5).toNat).toNat)) ∧ (V' 42 1 = V 15 7 ∧ IVP V' (V 16) (V 15 3) (V 15 5) (V 15 4) ∧ V' 42 5 ≠ 0) ∧ (V' 38 3 = V 15 7 ∧ DI (V 16) (V 15 3) (V 15 6) (V 15 5) (V' 38 4) ∧ ((V' 38 5 = 1 ∧ V' 38 4 = 0 ∧ APT (V 16) (V 15 3) (V 15 6) (V 15 5)) ∨ (V' 38 5 = 0 ∧ ¬ (V' 38 4 = 0 ∧ APT (V 16) (V 15 3) (V 15 6) (V 15 5))))) ∧ ((V' 42 1 = V 15 7 → IVP V' (V 16) (V 15 3) (V 15 5) (V 15 4)) ∧ (V' 42 1 = V 42 1 ∨ V' 42 1 = V 15 7)) ∧ fr [17, 18, 38, 39, 40, 41, 42, 43] V V')) (fun E V' => (E = exA ∧ ¬ (0 ≤ a ∧ a ≤ 2) ∧ V' = V) ∨ (E = exN ∧ (0 ≤ a ∧ a ≤ 2) ∧ NOI (V 16) (V 15 3) (V 15 5) (V 15 4) ∧ (V' 38 3 = V 15 7 ∧ DI (V 16) (V 15 3) (V 15 6) (V 15 5) (V' 38 4) ∧ ((V' 38 5 = 1 ∧ V' 38 4 = 0 ∧ APT (V 16) (V 15 3) (V 15 6) (V 15 5)) ∨ (V' 38 5 = 0 ∧ ¬ (V' 38 4 = 0 ∧ APT (V 16) (V 15 3) (V 15 6) (V 15 5))))) ∧ ((V' 42 1 = V 15 7 → IVP V' (V 16) (V 15 3) (V 15 5) (V 15 4)) ∧ (V' 42 1 = V 42 1 ∨ V' 42 1 = V 15 7)) ∧ fr [17, 18, 38, 39, 40, 41, 42, 43] V V')) := by
  refine OkX.intro (by decide +kernel) (Nat.le_of_ble_eq_true rfl) (fun X G hX hG hR hT hoa hoV => ?_)
  show J X G 0 [vA 0, vI a] [] V
  have hb9 := ho9.b
  refine j_il1 hX dX11_inverse_0 ?_
  refine j_if_lt (tgt := 9) hX dX11_inverse_1 (by decide) (fun h_1 => ?_) (fun h_1 => ?_)
  · skip
    exact j_throw (text := "what is out of range") hX hT th_137 (by decide +kernel) dX11_inverse_9 dX11_inverse_12 dX11_inverse_13 dX11_inverse_15 dX11_inverse_18 (by decide) (Nat.le_of_ble_eq_true rfl) rfl (Or.inl ⟨rfl, by omega, rfl⟩)
  · skip
    refine j_il1 hX dX11_inverse_4 ?_
    refine j_iconst hX dX11_inverse_5 ⟨by decide, by decide⟩ ?_
    refine j_icmp_le (tgt := 19) hX dX11_inverse_6 (by decide) (fun h_6 => ?_) (fun h_6 => ?_)
    · skip
      refine j_al0 hX dX11_inverse_19 rfl ?_
      refine j_cVI0 (ci := 11) hX (gNC hG) lk_X11_259 (ok_X11_hasInverse_T (by first | assumption | omega | decide) (by first | assumption | omega | decide) (by first | assumption | omega | decide) (by first | assumption | omega | decide)) (by decide) rfl (Nat.le_of_ble_eq_true rfl) (Nat.le_of_ble_eq_true rfl) (Nat.le_of_ble_eq_true rfl) rfl dX11_inverse_20 (fun x_20 V_20 h_20 => ?_)
      obtain ⟨r_20, q_20⟩ := h_20
      refine j_if_ne (tgt := 37) hX dX11_inverse_23 (by decide) (fun h_23 => ?_) (fun h_23 => ?_)
      · skip
        have w_20 := r_20.elim (fun q => q.2) (fun q => absurd q.1 h_23)
        have v_20 := w_20.2.1.b hb9.1 w_20.2.2
        refine j_il1 hX dX11_inverse_37 ?_
        refine j_if_ne (tgt := 49) hX dX11_inverse_38 (by decide) (fun h_38 => ?_) (fun h_38 => ?_)
        · skip
          refine j_il1 hX dX11_inverse_49 ?_
          refine j_iconst hX dX11_inverse_50 ⟨by decide, by decide⟩ ?_
          refine j_icmp_ne (tgt := 64) hX dX11_inverse_51 (by decide) (fun h_51 => ?_) (fun h_51 => ?_)
          · skip
            refine j_al0 hX dX11_inverse_64 rfl ?_
            refine j_getR (q := 42) hX hG fl_X11_69 rfl rfl (by decide) dX11_inverse_65 ?_
            refine j_pVI0 (ci := 3) hX (gNC hG) lk_X11_268 (ok_X3_countWords (by rw [v_20.1]; exact hb9.1) v_20.2) (by decide) rfl (Nat.le_of_ble_eq_true rfl) (Nat.le_of_ble_eq_true rfl) (Nat.le_of_ble_eq_true rfl) rfl dX11_inverse_68 ?_
            exact j_retI hR dX11_inverse_71 (by first | exact ⟨Or.inr (Or.inl ⟨by omega, rfl⟩), w_20, q_20⟩ | exact ⟨Or.inr (Or.inr ⟨by omega, rfl⟩), w_20, q_20⟩)
          · skip
            refine j_al0 hX dX11_inverse_54 rfl ?_
            refine j_getR (q := 42) hX hG fl_X11_69 rfl rfl (by decide) dX11_inverse_55 ?_
            refine j_getI hX hG fl_X11_265 (Or.inl rfl) (by decide) dX11_inverse_58 ?_
            refine j_goto (tgt := 71) hX dX11_inverse_61 (by decide) ?_
            exact j_retI hR dX11_inverse_71 (by first | exact ⟨Or.inr (Or.inl ⟨by omega, rfl⟩), w_20, q_20⟩ | exact ⟨Or.inr (Or.inr ⟨by omega, rfl⟩), w_20, q_20⟩)
        · skip
          refine j_al0 hX dX11_inverse_41 rfl ?_
          refine j_getR (q := 42) hX hG fl_X11_69 rfl rfl (by decide) dX11_inverse_42 ?_
          refine j_getI hX hG fl_X11_264 (Or.inl rfl) (by decide) dX11_inverse_45 ?_
          exact j_retI hR dX11_inverse_48 ⟨Or.inl ⟨by omega, rfl⟩, w_20, q_20⟩
      · skip
        exact j_throwN (text := "there is no inverse rule") hX hT (by decide +kernel) dX11_inverse_26 dX11_inverse_29 dX11_inverse_30 dX11_inverse_33 dX11_inverse_36 (by decide) (Nat.le_of_ble_eq_true rfl) rfl (Or.inr ⟨rfl, by omega, (r_20.elim (fun q => absurd q.1 (by omega)) (fun q => q.2)), q_20⟩)
    · skip
      exact j_throw (text := "what is out of range") hX hT th_137 (by decide +kernel) dX11_inverse_9 dX11_inverse_12 dX11_inverse_13 dX11_inverse_15 dX11_inverse_18 (by decide) (Nat.le_of_ble_eq_true rfl) rfl (Or.inl ⟨rfl, by omega, rfl⟩)
set_option maxHeartbeats 4000000 in
theorem ok_X11_inverseOf_T {V : VV} {d : Int} (ho9 : RO V 15) (ht : TR V 15) (hpk : V 38 3 = V 15 7 → DI (V 16) (V 15 3) (V 15 6) (V 15 5) (V 38 4) ∧ ((V 38 5 = 1 ∧ V 38 4 = 0 ∧ APT (V 16) (V 15 3) (V 15 6) (V 15 5)) ∨ (V 38 5 = 0 ∧ ¬ (V 38 4 = 0 ∧ APT (V 16) (V 15 3) (V 15 6) (V 15 5))))) (hik : V 42 1 = V 15 7 → IVP V (V 16) (V 15 3) (V 15 5) (V 15 4)) : OkX yX11_inverseOf cX11_inverseOf 3 (some .int) 8 158 [vA 0, vI d] V (pI (fun x9 V' => x9 = bkF V' (decC (V 15 3) (V' 42 5).toNat d) ∧ decC (V 15 3) (V' 42 5).toNat d ≠ -1 ∧ (V' 42 1 = V 15 7 ∧ IVP V' (V 16) (V 15 3) (V 15 5) (V 15 4) ∧ V' 42 5 ≠ 0) ∧ (V' 38 3 = V 15 7 ∧ DI (V 16) (V 15 3) (V 15 6) (V 15 5) (V' 38 4) ∧ ((V' 38 5 = 1 ∧ V' 38 4 = 0 ∧ APT (V 16) (V 15 3) (V 15 6) (V 15 5)) ∨ (V' 38 5 = 0 ∧ ¬ (V' 38 4 = 0 ∧ APT (V 16) (V 15 3) (V 15 6) (V 15 5))))) ∧ ((V' 42 1 = V 15 7 → IVP V' (V 16) (V 15 3) (V 15 5) (V 15 4)) ∧ (V' 42 1 = V 42 1 ∨ V' 42 1 = V 15 7)) ∧ fr [17, 18, 38, 39, 40, 41, 42, 43] V V')) (fun E V' => (E = exN ∧ NOI (V 16) (V 15 3) (V 15 5) (V 15 4) ∧ (V' 38 3 = V 15 7 ∧ DI (V 16) (V 15 3) (V 15 6) (V 15 5) (V' 38 4) ∧ ((V' 38 5 = 1 ∧ V' 38 4 = 0 ∧ APT (V 16) (V 15 3) (V 15 6) (V 15 5)) ∨ (V' 38 5 = 0 ∧ ¬ (V' 38 4 = 0 ∧ APT (V 16) (V 15 3) (V 15 6) (V 15 5))))) ∧ ((V' 42 1 = V 15 7 → IVP V' (V 16) (V 15 3) (V 15 5) (V 15 4)) ∧ (V' 42 1 = V 42 1 ∨ V' 42 1 = V 15 7)) ∧ fr [17, 18, 38, 39, 40, 41, 42, 43] V V') ∨ (E = exA ∧ decC (V 15 3) (V' 42 5).toNat d = -1 ∧ (V' 42 1 = V 15 7 ∧ IVP V' (V 16) (V 15 3) (V 15 5) (V 15 4) ∧ V' 42 5 ≠ 0) ∧ (V' 38 3 = V 15 7 ∧ DI (V 16) (V 15 3) (V 15 6) (V 15 5) (V' 38 4) ∧ ((V' 38 5 = 1 ∧ V' 38 4 = 0 ∧ APT (V 16) (V 15 3) (V 15 6) (V 15 5)) ∨ (V' 38 5 = 0 ∧ ¬ (V' 38 4 = 0 ∧ APT (V 16) (V 15 3) (V 15 6) (V 15 5))))) ∧ ((V' 42 1 = V 15 7 → IVP V' (V 16) (V 15 3) (V 15 5) (V 15 4)) ∧ (V' 42 1 = V 42 1 ∨ V' 42 1 = V 15 7)) ∧ fr [17, 18, 38, 39, 40, 41, 42, 43] V V')) := by
  refine OkX.intro (by decide +kernel) (Nat.le_of_ble_eq_true rfl) (fun X G hX hG hR hT hoa hoV => ?_)
  show J X G 0 [vA 0, vI d, vU] [] V
  have hb9 := ho9.b
  refine j_al0 hX dX11_inverseOf_0 rfl ?_
  refine j_cVI0 (ci := 11) hX (gNC hG) lk_X11_259 (ok_X11_hasInverse_T (by first | assumption | omega | decide) (by first | assumption | omega | decide) (by first | assumption | omega | decide) (by first | assumption | omega | decide)) (by decide) rfl (Nat.le_of_ble_eq_true rfl) (Nat.le_of_ble_eq_true rfl) (Nat.le_of_ble_eq_true rfl) rfl dX11_inverseOf_1 (fun x_1 V_1 h_1 => ?_)
  obtain ⟨r_1, q_1⟩ := h_1
  refine j_if_ne (tgt := 18) hX dX11_inverseOf_4 (by decide) (fun h_4 => ?_) (fun h_4 => ?_)
  · skip
    have w_1 := r_1.elim (fun q => q.2) (fun q => absurd q.1 h_4)
    have v_1 := w_1.2.1.b hb9.1 w_1.2.2
    refine j_al0 hX dX11_inverseOf_18 rfl ?_
    refine j_getR (q := 42) hX hG fl_X11_69 rfl rfl (by decide) dX11_inverseOf_19 ?_
    refine j_il1 hX dX11_inverseOf_22 ?_
    refine j_pVI1 (ci := 3) hX (gNC hG) lk_X11_270 (ok_X3_codeOfDecimal (by rw [v_1.1]; exact hb9.1) v_1.2) (by decide) rfl (Nat.le_of_ble_eq_true rfl) (Nat.le_of_ble_eq_true rfl) (Nat.le_of_ble_eq_true rfl) rfl dX11_inverseOf_23 ?_
    refine j_eqS (st' := [vI (decC (V 15 3) (V_1 42 5).toNat d)]) (by rw [v_1.1]) ?_
    refine j_is2 hX dX11_inverseOf_26 rfl ?_
    refine j_il2 hX dX11_inverseOf_27 ?_
    refine j_iconst hX dX11_inverseOf_28 ⟨by decide, by decide⟩ ?_
    refine j_icmp_ne (tgt := 43) hX dX11_inverseOf_29 (by decide) (fun h_29 => ?_) (fun h_29 => ?_)
    · skip
      have d_1 := decC_lt hb9.1 v_1.2 h_29
      have s_1 := w_1.2.1.s hb9.1 w_1.2.2 hb9.2.1
      refine j_al0 hX dX11_inverseOf_43 rfl ?_
      refine j_getR (q := 42) hX hG fl_X11_69 rfl rfl (by decide) dX11_inverseOf_44 ?_
      refine j_il2 hX dX11_inverseOf_47 ?_
      refine j_pVI1 (ci := 3) hX (gNC hG) lk_X11_275 (ok_X3_gives (by rw [v_1.1]; exact hb9.1) s_1.1 s_1.2 d_1) (by decide) rfl (Nat.le_of_ble_eq_true rfl) (Nat.le_of_ble_eq_true rfl) (Nat.le_of_ble_eq_true rfl) rfl dX11_inverseOf_48 ?_
      exact j_retI hR dX11_inverseOf_51 ⟨rfl, h_29, w_1, q_1⟩
    · skip
      exact j_throwW (text := "no such word") hX hT th_137 (by decide +kernel) dX11_inverseOf_32 dX11_inverseOf_35 dX11_inverseOf_36 dX11_inverseOf_39 dX11_inverseOf_42 (by decide) (Nat.le_of_ble_eq_true rfl) rfl (Or.inr ⟨rfl, h_29, w_1, q_1⟩)
  · skip
    exact j_throwN (text := "there is no inverse rule") hX hT (by decide +kernel) dX11_inverseOf_7 dX11_inverseOf_10 dX11_inverseOf_11 dX11_inverseOf_14 dX11_inverseOf_17 (by decide) (Nat.le_of_ble_eq_true rfl) rfl (Or.inl ⟨rfl, (r_1.elim (fun q => absurd q.1 (by omega)) (fun q => q.2)), q_1⟩)
set_option maxHeartbeats 4000000 in
theorem ok_X11_back_T {V : VV} {a : Int} (ho9 : RO V 15) (ht : TR V 15) (hpk : V 38 3 = V 15 7 → DI (V 16) (V 15 3) (V 15 6) (V 15 5) (V 38 4) ∧ ((V 38 5 = 1 ∧ V 38 4 = 0 ∧ APT (V 16) (V 15 3) (V 15 6) (V 15 5)) ∨ (V 38 5 = 0 ∧ ¬ (V 38 4 = 0 ∧ APT (V 16) (V 15 3) (V 15 6) (V 15 5))))) (hik : V 42 1 = V 15 7 → IVP V (V 16) (V 15 3) (V 15 5) (V 15 4)) (hn : 1 ≤ V 23 1 ∧ V 23 1 ≤ 16) (hQ : ∀ k, 0 ≤ k → k < V 23 1 → 0 ≤ V 24 k ∧ V 24 k < V 15 3) (hcl : 0 ≤ V 33 5 ∧ V 33 5 ≤ 9) (hcc : 0 ≤ V 33 4 ∧ V 33 4 ≤ 10) : OkX yX11_back cX11_back 3 (some .int) 8 158 [vA 0, vI a] V (pI (fun x9 V' => ((1 ≤ a ∧ a ≤ 100) ∧ x9 = cntI (fun k => V 24 k != V' 24 k) (V 23 1).toNat ∧ (∀ k, 0 ≤ k → k < V 23 1 → V' 24 k = itB V' (V 23 1) (V 24) a.toNat k) ∧ (∀ s, 0 ≤ s → s < a → ∀ k, 0 ≤ k → k < V 23 1 → itB V' (V 23 1) (V 24) (s + 1).toNat k ≠ -1) ∧ V' 23 1 = V 23 1) ∧ (V' 42 1 = V 15 7 ∧ IVP V' (V 16) (V 15 3) (V 15 5) (V 15 4) ∧ V' 42 5 ≠ 0) ∧ REC V V' (-1) 0 ∧ (V' 38 3 = V 15 7 ∧ DI (V 16) (V 15 3) (V 15 6) (V 15 5) (V' 38 4) ∧ ((V' 38 5 = 1 ∧ V' 38 4 = 0 ∧ APT (V 16) (V 15 3) (V 15 6) (V 15 5)) ∨ (V' 38 5 = 0 ∧ ¬ (V' 38 4 = 0 ∧ APT (V 16) (V 15 3) (V 15 6) (V 15 5))))) ∧ fr [17, 18, 23, 24, 29, 30, 31, 32, 33, 34, 35, 36, 37, 38, 39, 40, 41, 42, 43] V V')) (fun E V' => (E = exA ∧ ¬ (1 ≤ a ∧ a ≤ 100) ∧ V' = V) ∨ (E = exN ∧ (1 ≤ a ∧ a ≤ 100) ∧ NOI (V 16) (V 15 3) (V 15 5) (V 15 4) ∧ (V' 38 3 = V 15 7 ∧ DI (V 16) (V 15 3) (V 15 6) (V 15 5) (V' 38 4) ∧ ((V' 38 5 = 1 ∧ V' 38 4 = 0 ∧ APT (V 16) (V 15 3) (V 15 6) (V 15 5)) ∨ (V' 38 5 = 0 ∧ ¬ (V' 38 4 = 0 ∧ APT (V 16) (V 15 3) (V 15 6) (V 15 5))))) ∧ ((V' 42 1 = V 15 7 → IVP V' (V 16) (V 15 3) (V 15 5) (V 15 4)) ∧ (V' 42 1 = V 42 1 ∨ V' 42 1 = V 15 7)) ∧ fr [17, 18, 38, 39, 40, 41, 42, 43] V V') ∨ (E = exS ∧ (1 ≤ a ∧ a ≤ 100) ∧ (∃ t, 0 ≤ t ∧ t < a ∧ (∀ s, 0 ≤ s → s < t → ∀ k, 0 ≤ k → k < V 23 1 → itB V' (V 23 1) (V 24) (s + 1).toNat k ≠ -1) ∧ ∃ k, 0 ≤ k ∧ k < V 23 1 ∧ itB V' (V 23 1) (V 24) (t + 1).toNat k = -1) ∧ (V' 42 1 = V 15 7 ∧ IVP V' (V 16) (V 15 3) (V 15 5) (V 15 4) ∧ V' 42 5 ≠ 0) ∧ (V' 38 3 = V 15 7 ∧ DI (V 16) (V 15 3) (V 15 6) (V 15 5) (V' 38 4) ∧ ((V' 38 5 = 1 ∧ V' 38 4 = 0 ∧ APT (V 16) (V 15 3) (V 15 6) (V 15 5)) ∨ (V' 38 5 = 0 ∧ ¬ (V' 38 4 = 0 ∧ APT (V 16) (V 15 3) (V 15 6) (V 15 5))))) ∧ fr [17, 18, 29, 30, 31, 32, 38, 39, 40, 41, 42, 43] V V')) := by
  refine OkX.intro (by decide +kernel) (Nat.le_of_ble_eq_true rfl) (fun X G hX hG hR hT hoa hoV => ?_)
  show J X G 0 [vA 0, vI a, vU] [] V
  have hb9 := ho9.b
  refine j_il1 hX dX11_back_0 ?_
  refine j_iconst hX dX11_back_1 ⟨by decide, by decide⟩ ?_
  refine j_icmp_lt (tgt := 11) hX dX11_back_2 (by decide) (fun h_2 => ?_) (fun h_2 => ?_)
  · skip
    exact j_throwW (text := "steps is out of range") hX hT th_137 (by decide +kernel) dX11_back_11 dX11_back_14 dX11_back_15 dX11_back_18 dX11_back_21 (by decide) (Nat.le_of_ble_eq_true rfl) rfl (Or.inl ⟨rfl, by omega, rfl⟩)
  · skip
    refine j_il1 hX dX11_back_5 ?_
    refine j_bipush hX dX11_back_6 (by decide) ⟨by decide, by decide⟩ ?_
    refine j_icmp_le (tgt := 22) hX dX11_back_8 (by decide) (fun h_8 => ?_) (fun h_8 => ?_)
    · skip
      refine j_al0 hX dX11_back_22 rfl ?_
      refine j_cVI0 (ci := 11) hX (gNC hG) lk_X11_259 (ok_X11_hasInverse_T (by first | assumption | omega | decide) (by first | assumption | omega | decide) (by first | assumption | omega | decide) (by first | assumption | omega | decide)) (by decide) rfl (Nat.le_of_ble_eq_true rfl) (Nat.le_of_ble_eq_true rfl) (Nat.le_of_ble_eq_true rfl) rfl dX11_back_23 (fun x_23 V_23 h_23 => ?_)
      obtain ⟨r_23, q_23⟩ := h_23
      have l_23 : V_23 23 1 = V 23 1 := q_23.2.2 23 1 (by decide)
      refine j_if_ne (tgt := 40) hX dX11_back_26 (by decide) (fun h_26 => ?_) (fun h_26 => ?_)
      · skip
        have w_23 := r_23.elim (fun q => q.2) (fun q => absurd q.1 h_26)
        have v_23 := w_23.2.1.b hb9.1 w_23.2.2
        have s_23 := w_23.2.1.s hb9.1 w_23.2.2 hb9.2.1
        have t_23 : V_23 42 3 = V 15 4 - 2 := w_23.2.1.2.1
        refine j_al0 hX dX11_back_40 rfl ?_
        refine j_getR (q := 29) hX hG fl_X11_46 rfl rfl (by decide) dX11_back_41 ?_
        refine j_al0 hX dX11_back_44 rfl ?_
        refine j_getR (q := 23) hX hG fl_X11_36 rfl rfl (by decide) dX11_back_45 ?_
        refine j_cVV1 (ci := 7) hX (gNC hG) lk_X11_158 (ok_X7_copy (by decide) (by decide) (by decide) (by omega)) (by decide) rfl (Nat.le_of_ble_eq_true rfl) (Nat.le_of_ble_eq_true rfl) (Nat.le_of_ble_eq_true rfl) rfl dX11_back_48 (fun V_48 h_48 => ?_)
        obtain ⟨a_48, b_48, s_48⟩ := h_48
        dsimp only [Int.reduceAdd] at a_48 b_48 s_48
        rw [l_23] at a_48 b_48
        have f_48 := fr_s2 s_48
        have c_48 : ∀ b, 0 ≤ b → b < V 23 1 → V_48 30 b = V 24 b := fun b b0 b1 => (b_48 b b0 b1).trans (q_23.2.2 24 b (by decide))
        try dsimp only [Int.reduceAdd]
        refine j_iconst hX dX11_back_51 ⟨by decide, by decide⟩ ?_
        refine j_is2 hX dX11_back_52 rfl ?_
        have lp_53 : ∀ (f9 : Nat) (t : Int) (W : VV), (0 ≤ t ∧ t ≤ a) → (fr [29, 30, 31, 32] V_23 W) → (W 29 1 = V 23 1) → (∀ k, 0 ≤ k → k < V 23 1 → W 30 k = itB V_23 (V 23 1) (V 24) t.toNat k ∧ 0 ≤ W 30 k ∧ W 30 k < V 15 3) → (∀ s, 0 ≤ s → s < t → ∀ k, 0 ≤ k → k < V 23 1 → itB V_23 (V 23 1) (V 24) (s + 1).toNat k ≠ -1) → ((a - t).toNat) < f9 → J X G 53 [vA 0, vI a, vI t] [] W := by
          intro f9
          induction f9 with
          | zero => intro t W _ _ _ _ _ hm; exact absurd hm (Nat.not_lt_zero _)
          | succ f9 ih_53 =>
            intro t W hk hs h29 hTT hOK hm
            refine j_il2 hX dX11_back_53 ?_
            refine j_il1 hX dX11_back_54 ?_
            refine j_icmp_ge (tgt := 104) hX dX11_back_55 (by decide) (fun h_55 => ?_) (fun h_55 => ?_)
            · skip
              have w42 : W 42 = V_23 42 := funext fun b => hs 42 b (by decide)
              have w43 : W 43 = V_23 43 := funext fun b => hs 43 b (by decide)
              have w23 : W 23 1 = V 23 1 := (hs 23 1 (by decide)).trans (q_23.2.2 23 1 (by decide))
              have w24 : W 24 = V 24 := funext fun b => (hs 24 b (by decide)).trans (q_23.2.2 24 b (by decide))
              have w4 : W 33 4 = V 33 4 := (hs 33 4 (by decide)).trans (q_23.2.2 33 4 (by decide))
              have w5 : W 33 5 = V 33 5 := (hs 33 5 (by decide)).trans (q_23.2.2 33 5 (by decide))
              refine j_al0 hX dX11_back_104 rfl ?_
              refine j_cVI0 (ci := 11) hX (gNC hG) lk_X11_342 (ok_X11_replaceRing (by omega) (by omega) (by omega) (by omega)) (by decide) rfl (Nat.le_of_ble_eq_true rfl) (Nat.le_of_ble_eq_true rfl) (Nat.le_of_ble_eq_true rfl) rfl dX11_back_105 (fun x_105 V_105 h_105 => ?_)
              obtain ⟨x9_105, rec_105, l_105, b_105, f_105⟩ := h_105
              have u_105 : V_105 42 = V_23 42 := (funext fun b => f_105 42 b (by decide)).trans w42
              have u2_105 : V_105 43 = V_23 43 := (funext fun b => f_105 43 b (by decide)).trans w43
              have u3_105 : V_105 38 = V_23 38 := funext fun b => (f_105 38 b (by decide)).trans (hs 38 b (by decide))
              exact j_retI hR dX11_back_108 (by
        refine ⟨⟨by omega, by rw [x9_105, w24, w23]; exact cntI_c _ (fun k k0 k1 => by rw [b_105 k k0 (by omega)]), fun k k0 k1 => by rw [b_105 k k0 (by omega), itB_e u_105 u2_105, (hTT k k0 k1).1, show t = a by omega], fun s s0 s1 j j0 j1 => ?_, by omega⟩, ?_, rec_105.c (fun x y hx => (hs x y (by simp; omega)).trans (q_23.2.2 x y (by simp; omega))) (fun _ _ _ => rfl), ?_, ?_⟩
        · rw [itB_e u_105 u2_105]; exact hOK s s0 (by omega) j j0 j1
        · rw [u_105]; exact ⟨w_23.1, w_23.2.1.sm u_105 u2_105, w_23.2.2⟩
        · rw [u3_105]; exact q_23.1
        · exact fr_t (fr_w q_23.2.2 (by decide)) (fr_t (fr_w hs (by decide)) (fr_w f_105 (by decide))))
            · skip
              have w42 : W 42 = V_23 42 := funext fun b => hs 42 b (by decide)
              have w43 : W 43 = V_23 43 := funext fun b => hs 43 b (by decide)
              have w23 : W 23 1 = V 23 1 := (hs 23 1 (by decide)).trans (q_23.2.2 23 1 (by decide))
              have w24 : W 24 = V 24 := funext fun b => (hs 24 b (by decide)).trans (q_23.2.2 24 b (by decide))
              have w4 : W 33 4 = V 33 4 := (hs 33 4 (by decide)).trans (q_23.2.2 33 4 (by decide))
              have w5 : W 33 5 = V 33 5 := (hs 33 5 (by decide)).trans (q_23.2.2 33 5 (by decide))
              have e9 : ∀ k, 0 ≤ k → k < V 23 1 → bkF W (wdB W k) = itB V_23 (V 23 1) (V 24) (t + 1).toNat k := fun k k0 k1 => by
                rw [show (t + 1).toNat = t.toNat + 1 by omega]
                exact rowB_w w42 w43 h29 hn.1 (fun j j0 j1 => (hTT j j0 j1).1) k
              refine j_al0 hX dX11_back_58 rfl ?_
              refine j_getR (q := 42) hX hG fl_X11_69 rfl rfl (by decide) dX11_back_59 ?_
              refine j_al0 hX dX11_back_62 rfl ?_
              refine j_getR (q := 29) hX hG fl_X11_46 rfl rfl (by decide) dX11_back_63 ?_
              refine j_al0 hX dX11_back_66 rfl ?_
              refine j_getR (q := 31) hX hG fl_X11_49 rfl rfl (by decide) dX11_back_67 ?_
              refine j_cVI2 (ci := 3) hX (gNC hG) lk_X11_345 (ok_X3_stepBack (by rw [w42, v_23.1]; exact hb9.1) (by rw [w42]; exact v_23.2) (by rw [w42]; exact s_23.1) (by rw [w43]; exact s_23.2) (by rw [w42]; omega) (by omega) (fun k k0 k1 => by rw [w42, v_23.1]; exact (hTT k k0 (by omega)).2)) (by decide) rfl (Nat.le_of_ble_eq_true rfl) (Nat.le_of_ble_eq_true rfl) (Nat.le_of_ble_eq_true rfl) rfl dX11_back_70 (fun x_70 V_70 h_70 => ?_)
              obtain ⟨r_70, l_70, f_70⟩ := h_70
              rw [h29] at r_70 l_70
              have u_70 : V_70 42 = V_23 42 := (funext fun b => f_70 42 b (by decide)).trans w42
              have u2_70 : V_70 43 = V_23 43 := (funext fun b => f_70 43 b (by decide)).trans w43
              have u3_70 : V_70 38 = V_23 38 := funext fun b => (f_70 38 b (by decide)).trans (hs 38 b (by decide))
              refine j_if_ne (tgt := 87) hX dX11_back_73 (by decide) (fun h_73 => ?_) (fun h_73 => ?_)
              · skip
                have g_70 := r_70.elim (fun q => q.2) (fun q => absurd q.1 h_73)
                refine j_al0 hX dX11_back_87 rfl ?_
                refine j_getR (q := 29) hX hG fl_X11_46 rfl rfl (by decide) dX11_back_88 ?_
                refine j_al0 hX dX11_back_91 rfl ?_
                refine j_getR (q := 31) hX hG fl_X11_49 rfl rfl (by decide) dX11_back_92 ?_
                refine j_cVV1 (ci := 7) hX (gNC hG) lk_X11_158 (ok_X7_copy (by decide) (by decide) (by decide) (by omega)) (by decide) rfl (Nat.le_of_ble_eq_true rfl) (Nat.le_of_ble_eq_true rfl) (Nat.le_of_ble_eq_true rfl) rfl dX11_back_95 (fun V_95 h_95 => ?_)
                obtain ⟨a_95, b_95, s_95⟩ := h_95
                dsimp only [Int.reduceAdd] at a_95 b_95 s_95
                rw [l_70] at a_95 b_95
                have f_95 := fr_s2 s_95
                try dsimp only [Int.reduceAdd]
                refine j_inc2 hX dX11_back_98 rfl (by omega) ?_
                refine j_goto (tgt := 53) hX dX11_back_101 (by decide) ?_
                exact ih_53 _ _ (by omega) (fr_t hs (fr_t (fr_w f_70 (by decide)) (fr_w f_95 (by decide)))) a_95 (fun k k0 k1 => by have z := g_70 k k0 k1; rw [b_95 k k0 k1, z.2, e9 k k0 k1]; exact ⟨rfl, rowB_b hb9.1 w_23.2.1 (n := V 23 1) (R := itB V_23 (V 23 1) (V 24) t.toNat) (by have z1 := z.1; rw [e9 k k0 k1, show (t + 1).toNat = t.toNat + 1 by omega] at z1; exact z1) |> fun y => by rw [show (t + 1).toNat = t.toNat + 1 by omega]; exact y⟩) (lt_stepI hOK (fun k k0 k1 => by rw [← e9 k k0 k1]; exact (g_70 k k0 k1).1)) (by omega)
              · skip
                exact j_throwW (text := "the inverse rule has no state for a word") hX hT th_118 (by decide +kernel) dX11_back_76 dX11_back_79 dX11_back_80 dX11_back_83 dX11_back_86 (by decide) (Nat.le_of_ble_eq_true rfl) rfl (by
        obtain ⟨k, k0, k1, k2⟩ : ∃ k, 0 ≤ k ∧ k < V 23 1 ∧ bkF W (wdB W k) = -1 := r_70.elim (fun q => absurd q.1 (by omega)) (fun q => q.2)
        refine Or.inr (Or.inr ⟨rfl, by omega, ⟨t, hk.1, by omega, fun s s0 s1 j j0 j1 => ?_, k, k0, k1, ?_⟩, ?_, ?_, ?_⟩)
        · rw [itB_e u_70 u2_70]; exact hOK s s0 s1 j j0 j1
        · rw [itB_e u_70 u2_70, ← e9 k k0 k1]; exact k2
        · rw [u_70]; exact ⟨w_23.1, w_23.2.1.sm u_70 u2_70, w_23.2.2⟩
        · rw [u3_70]; exact q_23.1
        · exact fr_t (fr_w q_23.2.2 (by decide)) (fr_t (fr_w hs (by decide)) (fr_w f_70 (by decide))))
        exact lp_53 _ _ _ (by omega) (fr_w f_48 (by decide)) a_48 (fun k k0 k1 => ⟨c_48 k k0 k1, by rw [c_48 k k0 k1]; exact hQ k k0 k1⟩) (fun s s0 s1 => by omega) (Nat.lt_succ_self _)
      · skip
        exact j_throwN (text := "there is no inverse rule") hX hT (by decide +kernel) dX11_back_29 dX11_back_32 dX11_back_33 dX11_back_36 dX11_back_39 (by decide) (Nat.le_of_ble_eq_true rfl) rfl (Or.inr (Or.inl ⟨rfl, by omega, (r_23.elim (fun q => absurd q.1 (by omega)) (fun q => q.2)), q_23⟩))
    · skip
      exact j_throwW (text := "steps is out of range") hX hT th_137 (by decide +kernel) dX11_back_11 dX11_back_14 dX11_back_15 dX11_back_18 dX11_back_21 (by decide) (Nat.le_of_ble_eq_true rfl) rfl (Or.inl ⟨rfl, by omega, rfl⟩)
theorem imgF_T {S T : Int → Int} {g n : Int} (hn : 1 ≤ n) (e : ∀ x, 0 ≤ x → x < n → S x = T x) (u : Int) : ∀ k : Nat, imgF S g n u k = imgF T g n u k
  | 0 => rfl
  | k + 1 => by
    unfold imgF
    rw [imgF_T hn e u k, e _ (Int.emod_nonneg _ (by omega)) (Int.emod_lt_of_pos _ (by omega))]
theorem MIV_T {W : VV} {S T : Int → Int} {g n w : Int} (hn : 1 ≤ n) (e : ∀ x, 0 ≤ x → x < n → S x = T x) (h : MIV W S g n w) : MIV W T g n w := by
  have e1 : ∀ u k, imgF S g n u k = imgF T g n u k := fun u k => imgF_T hn e u k
  unfold MIV IVS NT TEL at h ⊢
  simp only [e1] at h
  exact h
/-- the two inverse rules are one -/
theorem inv_eq {W1 W2 : VV} {T : Int → Int} {g n w : Int} (hg : 2 ≤ g ∧ g ≤ 6) (h1 : IVP W1 T g n w) (h2 : MIV W2 T g n w) : W2 55 39 = W1 42 5 ∧ (W1 42 5 ≠ 0 → W2 55 40 = W1 42 6 ∧ ∀ c, 0 ≤ c → c < g ^ (W1 42 5).toNat → W2 74 c = bkF W1 c) := by
  obtain ⟨i1, i2⟩ := h2
  have u := IVS_u i1 h1.2.2.1
  refine ⟨u.1, fun hv => ?_⟩
  have u2 := u.2 (by rw [u.1]; exact hv)
  refine ⟨u2, fun c c0 c1 => ?_⟩
  obtain ⟨j1, j2⟩ := i2 (by rw [u.1]; exact hv)
  rw [u.1, u2] at j1
  rw [u.1] at j2
  obtain ⟨o1, o2⟩ := h1.2.2.2 hv
  have hb := h1.b hg hv
  have h5 := pw5 hg (k := (W1 42 5).toNat) (by omega)
  unfold bkF
  rcases o2 c c0 (by omega) with ⟨z1, z2⟩ | ⟨z1, z2, z3⟩
  · rw [if_pos z1]
    rcases j2 c c0 c1 with y | ⟨x, x0, x1, x2⟩
    · exact y
    · exact absurd x2 (z2 x x0 (by rw [o1]; exact x1))
  · rw [if_neg (by omega), h1.1]
    have y := j1 (W1 43 c) z1 (by rw [← o1]; exact z2)
    rw [z3] at y
    rw [y, o1, show W1 42 5 + w - 1 - 1 - W1 42 6 = W1 42 5 + w - 2 - W1 42 6 by omega]
theorem inv_no {W : VV} {T : Int → Int} {g n w : Int} (h : NOI T g n w) (h2 : MIV W T g n w) : W 55 39 = 0 := h _ _ h2.1
theorem bkF_n {W : VV} {T : Int → Int} {g n w c : Int} (hg : 2 ≤ g ∧ g ≤ 6) (h : IVP W T g n w) : (bkF W c != -1) = (W 43 c != -1) := by
  unfold bkF
  by_cases e : W 43 c = -1
  · rw [if_pos e, e]
  · rw [if_neg e, h.1]
    have h1 : dg g (W 43 c) (W 42 4 - 1 - W 42 6).toNat ≠ -1 := fun z => by
      have := (dg_b (g := g) (e := W 43 c) (j := (W 42 4 - 1 - W 42 6).toNat) (by omega)).1
      omega
    rw [bne_iff_ne.mpr h1, bne_iff_ne.mpr e]
set_option maxHeartbeats 4000000 in
theorem LKQ.ik {t : Int} {q : Nat} {V W : VV} (h : LKQ t q V) (e : ∀ a ∈ relC, a ∉ ([38, 42, 43, 59, 74] : List Int) → ∀ b, W a b = V a b) (e5 : ∀ b : Int, b ≠ 0 → b ∉ ([38, 39, 40] : List Int) → W 55 b = V 55 b) (hP : W 38 3 = V 15 7 ∧ DI (V 16) (V 15 3) (V 15 6) (V 15 5) (W 38 4) ∧ ((W 38 5 = 1 ∧ W 38 4 = 0 ∧ APT (V 16) (V 15 3) (V 15 6) (V 15 5)) ∨ (W 38 5 = 0 ∧ ¬ (W 38 4 = 0 ∧ APT (V 16) (V 15 3) (V 15 6) (V 15 5))))) (w42 : W 42 1 ≤ V 15 7) (hI : W 42 1 = V 15 7 → IVP W (V 16) (V 15 3) (V 15 5) (V 15 4)) (hJ : MIV W (V 58) (V 55 1) (V 55 3) (V 55 2)) (mr : ∀ k, 0 ≤ k → k < V 55 5 → W 59 k = V 59 k) : LKQ t q W := by
  have f1 : W 1 = V 1 := funext (e 1 (by decide) (by decide))
  have f2 : W 2 = V 2 := funext (e 2 (by decide) (by decide))
  have f3 : W 3 = V 3 := funext (e 3 (by decide) (by decide))
  have f6 : W 6 = V 6 := funext (e 6 (by decide) (by decide))
  have f13 : W 13 = V 13 := funext (e 13 (by decide) (by decide))
  have f14 : W 14 = V 14 := funext (e 14 (by decide) (by decide))
  have f15 : W 15 = V 15 := funext (e 15 (by decide) (by decide))
  have f16 : W 16 = V 16 := funext (e 16 (by decide) (by decide))
  have f19 : W 19 = V 19 := funext (e 19 (by decide) (by decide))
  have f23 : W 23 = V 23 := funext (e 23 (by decide) (by decide))
  have f24 : W 24 = V 24 := funext (e 24 (by decide) (by decide))
  have f25 : W 25 = V 25 := funext (e 25 (by decide) (by decide))
  have f26 : W 26 = V 26 := funext (e 26 (by decide) (by decide))
  have f27 : W 27 = V 27 := funext (e 27 (by decide) (by decide))
  have f28 : W 28 = V 28 := funext (e 28 (by decide) (by decide))
  have f33 : W 33 = V 33 := funext (e 33 (by decide) (by decide))
  have f34 : W 34 = V 34 := funext (e 34 (by decide) (by decide))
  have f35 : W 35 = V 35 := funext (e 35 (by decide) (by decide))
  have f36 : W 36 = V 36 := funext (e 36 (by decide) (by decide))
  have f37 : W 37 = V 37 := funext (e 37 (by decide) (by decide))
  have f44 : W 44 = V 44 := funext (e 44 (by decide) (by decide))
  have f47 : W 47 = V 47 := funext (e 47 (by decide) (by decide))
  have f48 : W 48 = V 48 := funext (e 48 (by decide) (by decide))
  have f56 : W 56 = V 56 := funext (e 56 (by decide) (by decide))
  have f57 : W 57 = V 57 := funext (e 57 (by decide) (by decide))
  have f58 : W 58 = V 58 := funext (e 58 (by decide) (by decide))
  have f65 : W 65 = V 65 := funext (e 65 (by decide) (by decide))
  have f66 : W 66 = V 66 := funext (e 66 (by decide) (by decide))
  have f67 : W 67 = V 67 := funext (e 67 (by decide) (by decide))
  have f68 : W 68 = V 68 := funext (e 68 (by decide) (by decide))
  have f77 : W 77 = V 77 := funext (e 77 (by decide) (by decide))
  have g1 := e5 1 (by decide) (by decide)
  have g2 := e5 2 (by decide) (by decide)
  have g3 := e5 3 (by decide) (by decide)
  have g4 := e5 4 (by decide) (by decide)
  have g5 := e5 5 (by decide) (by decide)
  have g10 := e5 10 (by decide) (by decide)
  have g21 := e5 21 (by decide) (by decide)
  have g23 := e5 23 (by decide) (by decide)
  have g28 := e5 28 (by decide) (by decide)
  have g29 := e5 29 (by decide) (by decide)
  have g30 := e5 30 (by decide) (by decide)
  have g45 := e5 45 (by decide) (by decide)
  have g46 := e5 46 (by decide) (by decide)
  clear e e5
  obtain ⟨hC, hM, hN⟩ := h
  refine ⟨?_, ?_, ?_⟩
  · unfold LKC PKC IKC BKC SLC GP RO TR TB BASP at hC ⊢
    simp only [Int.reduceAdd, f2, f3, f6, f13, f14, f15, f16, f19, f23, f24, f25, f26, f27, f28, f33, f44, f47, f48] at hC ⊢
    obtain ⟨c1, c2, c3, c4, c5, c6, c7, c8, c9, c10, c11, c12, c13, _, _, c16, c17⟩ := hC
    exact ⟨c1, c2, c3, c4, c5, c6, c7, c8, c9, c10, c11, c12, ⟨Int.le_of_eq hP.1, w42, c13.2.2⟩, fun _ => hP.2, hI, c16, c17⟩
  · unfold LKM IKM BKM MG MO TRM MBP at hM ⊢
    simp only [f56, f57, f58, f68, f77, g1, g2, g3, g4, g5, g10, g21, g23, g28, g45, g46] at hM ⊢
    obtain ⟨p1, p2, p3, p4, p5, p6, p7, p8, p9, _, p11⟩ := hM
    exact ⟨p1, p2, p3, p4, fun k k0 k1 => by rw [mr k k0 k1]; exact p5 k k0 k1, p6, p7, p8, p9, fun _ => hJ, p11⟩
  · unfold LNK HIS hix hrw at hN ⊢
    simp only [f1, f2, f3, f15, f16, f23, f24, f25, f26, f27, f28, f33, f34, f35, f36, f37, f58, f65, f66, f67, f68, g1, g2, g3, g4, g5, g21, g23, g29, g30] at hN ⊢
    obtain ⟨n1, n2, n3, n4, n5, n6, n7, n8⟩ := hN
    exact ⟨n1, n2, n3, n4, n5, n6, fun k k0 k1 => (mr k k0 (by omega)).trans (n7 k k0 k1), n8⟩
theorem LKQ.ik2 {t : Int} {q : Nat} {V W X : VV} (hL : LKQ t q V) (hf : ∀ a b : Int, a ∉ ([17, 18, 29, 30, 31, 32, 38, 39, 40, 41, 42, 43, 87] : List Int) → W a b = V a b) (hP : W 38 3 = V 15 7 ∧ DI (V 16) (V 15 3) (V 15 6) (V 15 5) (W 38 4) ∧ ((W 38 5 = 1 ∧ W 38 4 = 0 ∧ APT (V 16) (V 15 3) (V 15 6) (V 15 5)) ∨ (W 38 5 = 0 ∧ ¬ (W 38 4 = 0 ∧ APT (V 16) (V 15 3) (V 15 6) (V 15 5))))) (w42 : W 42 1 ≤ V 15 7) (hI : W 42 1 = V 15 7 → IVP W (V 16) (V 15 3) (V 15 5) (V 15 4)) (hJ : MIV X (W 58) (W 55 1) (W 55 3) (W 55 2)) (f5 : ∀ b : Int, b ≠ 0 → b ≠ 38 → b ≠ 39 → b ≠ 40 → X 55 b = W 55 b) (fa : ∀ a b : Int, a ≠ 55 → a ≠ 59 → a ≠ 73 → a ≠ 74 → a ≠ 84 → a ≠ 86 → X a b = W a b) (f59 : ∀ k, 0 ≤ k → k < V 55 5 → X 59 k = W 59 k) : LKQ t q X := by
  have x38 : ∀ b, X 38 b = W 38 b := fun b => fa 38 b (by decide) (by decide) (by decide) (by decide) (by decide) (by decide)
  have x42 : ∀ b, X 42 b = W 42 b := fun b => fa 42 b (by decide) (by decide) (by decide) (by decide) (by decide) (by decide)
  have x43 : ∀ b, X 43 b = W 43 b := fun b => fa 43 b (by decide) (by decide) (by decide) (by decide) (by decide) (by decide)
  refine hL.ik (fun a ha hb b => ?_) (fun b h0 hb => ?_) (by rw [x38, x38, x38]; exact hP) (by rw [x42]; exact w42) (fun z => by rw [x42] at z; exact (hI z).sm (funext x42) (funext x43)) ?_ (fun k k0 k1 => by rw [f59 k k0 k1, hf 59 k (by decide)])
  · have h9 : a ≠ 55 ∧ a ≠ 73 ∧ a ≠ 84 ∧ a ≠ 86 ∧ a ≠ 17 ∧ a ≠ 18 ∧ a ≠ 29 ∧ a ≠ 30 ∧ a ≠ 31 ∧ a ≠ 32 ∧ a ≠ 39 ∧ a ≠ 40 ∧ a ≠ 41 ∧ a ≠ 87 := by
      unfold relC at ha
      simp only [List.mem_cons, List.not_mem_nil, or_false] at ha
      omega
    simp at hb
    rw [fa a b (by omega) (by omega) (by omega) (by omega) (by omega) (by omega), hf a b (by simp; omega)]
  · simp at hb
    rw [f5 b h0 (by omega) (by omega) (by omega), hf 55 b (by decide)]
  · have e58 : W 58 = V 58 := funext fun b => hf 58 b (by decide)
    rw [e58, hf 55 1 (by decide), hf 55 3 (by decide), hf 55 2 (by decide)] at hJ
    exact hJ
