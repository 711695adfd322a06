theorem IVP.sm {V W : VV} {T : Int → Int} {g n w : Int} (h : IVP V T g n w) (e : W 42 = V 42) (e' : W 43 = V 43) : IVP W T g n w := by
  unfold IVP OG at h ⊢
  rw [e, e']; exact h
theorem IVP.v {W : VV} {T : Int → Int} {g n w : Int} (h : IVP W T g n w) : W 42 5 = 0 ∨ 1 ≤ W 42 5 := by
  rcases h.2.2.1 with q | q
  · exact Or.inl q.1
  · exact Or.inr q.1.1
theorem IVP.b {W : VV} {T : Int → Int} {g n w : Int} (h : IVP W T g n w) (hg : 2 ≤ g ∧ g ≤ 6) (hv : W 42 5 ≠ 0) : W 42 2 = g ∧ 1 ≤ W 42 5 ∧ W 42 5 ≤ 5 := ⟨h.1, (h.2.2.1.b hg hv).1⟩
theorem IVP.s {W : VV} {T : Int → Int} {g n w : Int} (h : IVP W T g n w) (hg : 2 ≤ g ∧ g ≤ 6) (hv : W 42 5 ≠ 0) (hw : 2 ≤ w ∧ w ≤ 3) : (0 ≤ W 42 6 ∧ W 42 6 < W 42 4 ∧ W 42 4 ≤ 7) ∧ ∀ c, 0 ≤ c → c < 7776 → W 43 c = -1 ∨ 0 ≤ W 43 c := by
  have h1 := h.2.2.1.b hg hv
  have h2 := h.2.2.2 hv
  refine ⟨by omega, fun c c0 c1 => ?_⟩
  rcases h2.2 c c0 c1 with q | q
  · exact Or.inl q.1
  · exact Or.inr q.1
theorem NOI_1 {V : VV} {s : Int} (ho : RO V 15) (hd : DI (V 16) (V 15 3) (V 15 6) (V 15 5) s) (h : ¬ (s = 0 ∧ APT (V 16) (V 15 3) (V 15 6) (V 15 5))) : NOI (V 16) (V 15 3) (V 15 5) (V 15 4) := fun v z hv => Classical.byContradiction fun q => by
  have hb := ho.b
  have ha := IVS_APT ho hv q
  exact h ⟨APT_DI (by omega) (by omega) ho.n ha hd, ha⟩
theorem NOI_2 {W : VV} {T : Int → Int} {g n w : Int} (h : IVP W T g n w) (h0 : W 42 5 = 0) : NOI T g n w := fun v s hv => by
  have := (IVS_u h.2.2.1 hv).1
  omega
theorem decC_lt {g v d : Int} (hg : 2 ≤ g ∧ g ≤ 6) (hv : 1 ≤ v ∧ v ≤ 5) (h : ¬ decC g v.toNat d = -1) : 0 ≤ decC g v.toNat d ∧ decC g v.toNat d < 7776 := by
  have h1 := decC_b (g := g) (by omega) v.toNat d
  have h2 := pw5 hg (k := v.toNat) (by omega)
  omega
theorem cnF_row {C : Int → VC} {d : Int} (h0 : 0 ≤ d) : ∀ n : Nat, d < cnF C n → ∃ f : Int, 0 ≤ f ∧ f < n ∧ C f f = 0 ∧ cnF C f = d
  | 0 => fun h => by
    have := (cnF_b C (f := ((0 : Nat) : Int)) (by omega)).2
    omega
  | n + 1 => fun h => by
    have hs := cnF_S (C := C) (f := n) (by omega)
    rw [show ((n + 1 : Nat) : Int) = (n : Int) + 1 by omega] at h ⊢
    by_cases q : d < cnF C n
    · obtain ⟨f, f0, f1, f2, f3⟩ := cnF_row h0 n q
      exact ⟨f, f0, by omega, f2, f3⟩
    · by_cases e : C n n = 0
      · rw [if_pos e] at hs
        exact ⟨n, by omega, by omega, e, by omega⟩
      · rw [if_neg e] at hs; omega
theorem BASP.d {V : VV} {T : Int → Int} {g N n : Int} (h : BASP V T g N n) (hg : 2 ≤ g ∧ g ≤ 6) : 0 ≤ V 44 6 ∧ V 44 6 ≤ g := by
  obtain ⟨-, C, -, h1, -⟩ := h
  rw [h1]; exact cnF_b C (by omega)
theorem BASP.v {V : VV} {T : Int → Int} {g N n d : Int} (h : BASP V T g N n) (hg : 2 ≤ g ∧ g ≤ 6) (hd : 0 ≤ d ∧ d < V 44 6) : VOK g (fun s => V 47 (d * 6 + s)) (fun s => V 48 (d * 6 + s)) := by
  obtain ⟨-, C, hC, h1, h2⟩ := h
  rw [h1, show g = (g.toNat : Int) by omega] at hd
  obtain ⟨f, f0, f1, f2, f3⟩ := cnF_row hd.1 g.toNat hd.2
  have h3 := h2 f f0 (by omega) f2
  rw [f3] at h3
  exact VOK_of hg hC ⟨f0, by omega, f2⟩ h3
theorem RO_56 {V W : VV} (h : RO V 15) (h' : RO W 19) (h3 : W 19 3 = V 15 3) (h4 : W 19 4 = V 15 4) : W 19 5 = V 15 5 ∧ W 19 6 = V 15 6 := by
  obtain ⟨-, a, b⟩ := h
  obtain ⟨-, a', b'⟩ := h'
  have h6 : W 19 6 = V 15 6 := by
    rw [h3] at a'
    rcases a with a | a <;> rcases a' with a' | a'
    · rw [a.2, a'.2]
    · omega
    · omega
    · rw [a.2, a'.2]
  exact ⟨by rw [b, b', h6, h3], h6⟩
set_option maxHeartbeats 4000000 in
theorem ok_X11_isSurjective {V : VV} (ho9 : RO V 15) (ht : TR V 15) (hpk : V 38 3 = V 15 7 → DI (V 16) (V 15 3) (V 15 6) (V 15 5) (V 38 4) ∧ ((V 38 5 = 1 ∧ V 38 4 = 0 ∧ APT (V 16) (V 15 3) (V 15 6) (V 15 5)) ∨ (V 38 5 = 0 ∧ ¬ (V 38 4 = 0 ∧ APT (V 16) (V 15 3) (V 15 6) (V 15 5))))) : Ok NC yX11_isSurjective cX11_isSurjective 1 (some .boolean) 6 138 [vA 0] V (pI (fun x9 V' => x9 = (if V' 38 4 = 0 then 1 else 0) ∧ V' 38 3 = V 15 7 ∧ DI (V 16) (V 15 3) (V 15 6) (V 15 5) (V' 38 4) ∧ ((V' 38 5 = 1 ∧ V' 38 4 = 0 ∧ APT (V 16) (V 15 3) (V 15 6) (V 15 5)) ∨ (V' 38 5 = 0 ∧ ¬ (V' 38 4 = 0 ∧ APT (V 16) (V 15 3) (V 15 6) (V 15 5)))) ∧ fr [17, 18, 38, 39, 40, 41] V V')) := by
  refine Ok.intro (by decide +kernel) (Nat.le_of_ble_eq_true rfl) (fun X G hX hG hR hoa hoV => ?_)
  show J X G 0 [vA 0] [] V
  refine j_al0 hX dX11_isSurjective_0 rfl ?_
  refine j_getR (q := 38) hX hG fl_X11_62 rfl rfl (by decide) dX11_isSurjective_1 ?_
  refine j_al0 hX dX11_isSurjective_4 rfl ?_
  refine j_getR (q := 15) hX hG fl_X11_26 rfl rfl (by decide) dX11_isSurjective_5 ?_
  refine j_cVV1 (ci := 6) hX hG lk_X11_244 (ok_X6_prepare (by first | assumption | omega | decide) (by first | assumption | omega | decide) (by first | assumption | omega | decide)) (by decide) rfl (Nat.le_of_ble_eq_true rfl) (Nat.le_of_ble_eq_true rfl) (Nat.le_of_ble_eq_true rfl) rfl dX11_isSurjective_8 (fun V_8 h_8 => ?_)
  obtain ⟨a_8, b_8, c_8, f_8⟩ := h_8
  refine j_al0 hX dX11_isSurjective_11 rfl ?_
  refine j_getR (q := 38) hX hG fl_X11_62 rfl rfl (by decide) dX11_isSurjective_12 ?_
  refine j_getI hX hG fl_X11_247 (Or.inl rfl) (by decide) dX11_isSurjective_15 ?_
  refine j_if_ne (tgt := 25) hX dX11_isSurjective_18 (by decide) (fun h_18 => ?_) (fun h_18 => ?_)
  · skip
    refine j_iconst hX dX11_isSurjective_25 ⟨by decide, by decide⟩ ?_
    exact j_retZ hR dX11_isSurjective_26 (by omega) (by first | exact ⟨by rw [if_pos h_18], a_8, b_8, c_8, f_8⟩ | exact ⟨by rw [if_neg h_18], a_8, b_8, c_8, f_8⟩)
  · skip
    refine j_iconst hX dX11_isSurjective_21 ⟨by decide, by decide⟩ ?_
    refine j_goto (tgt := 26) hX dX11_isSurjective_22 (by decide) ?_
    exact j_retZ hR dX11_isSurjective_26 (by omega) (by first | exact ⟨by rw [if_pos h_18], a_8, b_8, c_8, f_8⟩ | exact ⟨by rw [if_neg h_18], a_8, b_8, c_8, f_8⟩)
set_option maxHeartbeats 4000000 in
theorem ok_X11_isInjective {V : VV} (ho9 : RO V 15) (ht : TR V 15) (hpk : V 38 3 = V 15 7 → DI (V 16) (V 15 3) (V 15 6) (V 15 5) (V 38 4) ∧ ((V 38 5 = 1 ∧ V 38 4 = 0 ∧ APT (V 16) (V 15 3) (V 15 6) (V 15 5)) ∨ (V 38 5 = 0 ∧ ¬ (V 38 4 = 0 ∧ APT (V 16) (V 15 3) (V 15 6) (V 15 5))))) : Ok NC yX11_isInjective cX11_isInjective 1 (some .boolean) 6 138 [vA 0] V (pI (fun x9 V' => x9 = V' 38 5 ∧ V' 38 3 = V 15 7 ∧ DI (V 16) (V 15 3) (V 15 6) (V 15 5) (V' 38 4) ∧ ((V' 38 5 = 1 ∧ V' 38 4 = 0 ∧ APT (V 16) (V 15 3) (V 15 6) (V 15 5)) ∨ (V' 38 5 = 0 ∧ ¬ (V' 38 4 = 0 ∧ APT (V 16) (V 15 3) (V 15 6) (V 15 5)))) ∧ fr [17, 18, 38, 39, 40, 41] V V')) := by
  refine Ok.intro (by decide +kernel) (Nat.le_of_ble_eq_true rfl) (fun X G hX hG hR hoa hoV => ?_)
  show J X G 0 [vA 0] [] V
  refine j_al0 hX dX11_isInjective_0 rfl ?_
  refine j_getR (q := 38) hX hG fl_X11_62 rfl rfl (by decide) dX11_isInjective_1 ?_
  refine j_al0 hX dX11_isInjective_4 rfl ?_
  refine j_getR (q := 15) hX hG fl_X11_26 rfl rfl (by decide) dX11_isInjective_5 ?_
  refine j_cVV1 (ci := 6) hX hG lk_X11_244 (ok_X6_prepare (by first | assumption | omega | decide) (by first | assumption | omega | decide) (by first | assumption | omega | decide)) (by decide) rfl (Nat.le_of_ble_eq_true rfl) (Nat.le_of_ble_eq_true rfl) (Nat.le_of_ble_eq_true rfl) rfl dX11_isInjective_8 (fun V_8 h_8 => ?_)
  obtain ⟨a_8, b_8, c_8, f_8⟩ := h_8
  refine j_al0 hX dX11_isInjective_11 rfl ?_
  refine j_getR (q := 38) hX hG fl_X11_62 rfl rfl (by decide) dX11_isInjective_12 ?_
  refine j_getI hX hG fl_X11_250 (Or.inr rfl) (by decide) dX11_isInjective_15 ?_
  exact j_retZ hR dX11_isInjective_18 (by omega) ⟨rfl, a_8, b_8, c_8, f_8⟩
set_option maxHeartbeats 4000000 in
theorem ok_X11_diamond {V : VV} (ho9 : RO V 15) (ht : TR V 15) (hpk : V 38 3 = V 15 7 → DI (V 16) (V 15 3) (V 15 6) (V 15 5) (V 38 4) ∧ ((V 38 5 = 1 ∧ V 38 4 = 0 ∧ APT (V 16) (V 15 3) (V 15 6) (V 15 5)) ∨ (V 38 5 = 0 ∧ ¬ (V 38 4 = 0 ∧ APT (V 16) (V 15 3) (V 15 6) (V 15 5))))) : OkX yX11_diamond cX11_diamond 1 (some .int) 8 138 [vA 0] V (pI (fun x9 V' => (x9 = V' 38 4 ∧ V' 38 4 ≠ 0) ∧ V' 38 3 = V 15 7 ∧ DI (V 16) (V 15 3) (V 15 6) (V 15 5) (V' 38 4) ∧ ((V' 38 5 = 1 ∧ V' 38 4 = 0 ∧ APT (V 16) (V 15 3) (V 15 6) (V 15 5)) ∨ (V' 38 5 = 0 ∧ ¬ (V' 38 4 = 0 ∧ APT (V 16) (V 15 3) (V 15 6) (V 15 5)))) ∧ fr [17, 18, 38, 39, 40, 41] V V')) (fun E V' => (E = exN ∧ V' 38 4 = 0 ∧ V' 38 3 = V 15 7 ∧ DI (V 16) (V 15 3) (V 15 6) (V 15 5) (V' 38 4) ∧ ((V' 38 5 = 1 ∧ V' 38 4 = 0 ∧ APT (V 16) (V 15 3) (V 15 6) (V 15 5)) ∨ (V' 38 5 = 0 ∧ ¬ (V' 38 4 = 0 ∧ APT (V 16) (V 15 3) (V 15 6) (V 15 5)))) ∧ fr [17, 18, 38, 39, 40, 41] V V')) := by
  refine OkX.intro (by decide +kernel) (Nat.le_of_ble_eq_true rfl) (fun X G hX hG hR hT hoa hoV => ?_)
  show J X G 0 [vA 0] [] V
  refine j_al0 hX dX11_diamond_0 rfl ?_
  refine j_getR (q := 38) hX hG fl_X11_62 rfl rfl (by decide) dX11_diamond_1 ?_
  refine j_al0 hX dX11_diamond_4 rfl ?_
  refine j_getR (q := 15) hX hG fl_X11_26 rfl rfl (by decide) dX11_diamond_5 ?_
  refine j_cVV1 (ci := 6) hX (gNC hG) lk_X11_244 (ok_X6_prepare (by first | assumption | omega | decide) (by first | assumption | omega | decide) (by first | assumption | omega | decide)) (by decide) rfl (Nat.le_of_ble_eq_true rfl) (Nat.le_of_ble_eq_true rfl) (Nat.le_of_ble_eq_true rfl) rfl dX11_diamond_8 (fun V_8 h_8 => ?_)
  obtain ⟨a_8, b_8, c_8, f_8⟩ := h_8
  refine j_al0 hX dX11_diamond_11 rfl ?_
  refine j_getR (q := 38) hX hG fl_X11_62 rfl rfl (by decide) dX11_diamond_12 ?_
  refine j_getI hX hG fl_X11_247 (Or.inl rfl) (by decide) dX11_diamond_15 ?_
  refine j_if_ne (tgt := 32) hX dX11_diamond_18 (by decide) (fun h_18 => ?_) (fun h_18 => ?_)
  · skip
    refine j_al0 hX dX11_diamond_32 rfl ?_
    refine j_getR (q := 38) hX hG fl_X11_62 rfl rfl (by decide) dX11_diamond_33 ?_
    refine j_getI hX hG fl_X11_247 (Or.inl rfl) (by decide) dX11_diamond_36 ?_
    exact j_retI hR dX11_diamond_39 ⟨⟨rfl, h_18⟩, a_8, b_8, c_8, f_8⟩
  · skip
    exact j_throwN (text := "there is no diamond") hX hT (by decide +kernel) dX11_diamond_21 dX11_diamond_24 dX11_diamond_25 dX11_diamond_28 dX11_diamond_31 (by decide) (Nat.le_of_ble_eq_true rfl) rfl ⟨rfl, h_18, a_8, b_8, c_8, f_8⟩
set_option maxHeartbeats 4000000 in
theorem ok_X11_hasInverse {V : VV} (ho9 : RO V 15) (ht : TR V 15) (hpk : V 38 3 = V 15 7 → DI (V 16) (V 15 3) (V 15 6) (V 15 5) (V 38 4) ∧ ((V 38 5 = 1 ∧ V 38 4 = 0 ∧ APT (V 16) (V 15 3) (V 15 6) (V 15 5)) ∨ (V 38 5 = 0 ∧ ¬ (V 38 4 = 0 ∧ APT (V 16) (V 15 3) (V 15 6) (V 15 5))))) (hik : V 42 1 = V 15 7 → IVP V (V 16) (V 15 3) (V 15 5) (V 15 4)) : Ok NC yX11_hasInverse cX11_hasInverse 1 (some .boolean) 6 138 [vA 0] V (pI (fun x9 V' => ((x9 = 1 ∧ V' 42 1 = V 15 7 ∧ IVP V' (V 16) (V 15 3) (V 15 5) (V 15 4) ∧ V' 42 5 ≠ 0) ∨ (x9 = 0 ∧ NOI (V 16) (V 15 3) (V 15 5) (V 15 4))) ∧ (V' 38 3 = V 15 7 ∧ DI (V 16) (V 15 3) (V 15 6) (V 15 5) (V' 38 4) ∧ ((V' 38 5 = 1 ∧ V' 38 4 = 0 ∧ APT (V 16) (V 15 3) (V 15 6) (V 15 5)) ∨ (V' 38 5 = 0 ∧ ¬ (V' 38 4 = 0 ∧ APT (V 16) (V 15 3) (V 15 6) (V 15 5))))) ∧ (V' 42 1 = V 15 7 → IVP V' (V 16) (V 15 3) (V 15 5) (V 15 4)) ∧ fr [17, 18, 38, 39, 40, 41, 42, 43] V V')) := by
  refine Ok.intro (by decide +kernel) (Nat.le_of_ble_eq_true rfl) (fun X G hX hG hR hoa hoV => ?_)
  show J X G 0 [vA 0] [] V
  have hb9 := ho9.b
  refine j_al0 hX dX11_hasInverse_0 rfl ?_
  refine j_getR (q := 38) hX hG fl_X11_62 rfl rfl (by decide) dX11_hasInverse_1 ?_
  refine j_al0 hX dX11_hasInverse_4 rfl ?_
  refine j_getR (q := 15) hX hG fl_X11_26 rfl rfl (by decide) dX11_hasInverse_5 ?_
  refine j_cVV1 (ci := 6) hX hG lk_X11_244 (ok_X6_prepare (by first | assumption | omega | decide) (by first | assumption | omega | decide) (by first | assumption | omega | decide)) (by decide) rfl (Nat.le_of_ble_eq_true rfl) (Nat.le_of_ble_eq_true rfl) (Nat.le_of_ble_eq_true rfl) rfl dX11_hasInverse_8 (fun V_8 h_8 => ?_)
  obtain ⟨a_8, b_8, c_8, f_8⟩ := h_8
  have e15 : ∀ b, V_8 15 b = V 15 b := fun b => f_8 15 b (by decide)
  have e16 : V_8 16 = V 16 := funext fun b => f_8 16 b (by decide)
  have e42 : V_8 42 = V 42 := funext fun b => f_8 42 b (by decide)
  have e43 : V_8 43 = V 43 := funext fun b => f_8 43 b (by decide)
  have ro8 : RO V_8 15 := ho9.sm e15
  have tr8 : TR V_8 15 := fun e h0 h1 => by rw [show V_8 (15 + 1) e = V (15 + 1) e from congrFun e16 e, e15]; exact ht e h0 (by rw [e15] at h1; exact h1)
  have ik8 : V_8 42 1 = V_8 15 7 → IVP V_8 (V_8 16) (V_8 15 3) (V_8 15 5) (V_8 15 4) := by rw [e16, e15, e15, e15, e15, e42]; exact fun q => (hik q).sm e42 e43
  refine j_al0 hX dX11_hasInverse_11 rfl ?_
  refine j_getR (q := 38) hX hG fl_X11_62 rfl rfl (by decide) dX11_hasInverse_12 ?_
  refine j_getI hX hG fl_X11_250 (Or.inr rfl) (by decide) dX11_hasInverse_15 ?_
  refine j_if_ne (tgt := 23) hX dX11_hasInverse_18 (by decide) (fun h_18 => ?_) (fun h_18 => ?_)
  · skip
    refine j_al0 hX dX11_hasInverse_23 rfl ?_
    refine j_getR (q := 42) hX hG fl_X11_69 rfl rfl (by decide) dX11_hasInverse_24 ?_
    refine j_al0 hX dX11_hasInverse_27 rfl ?_
    refine j_getR (q := 15) hX hG fl_X11_26 rfl rfl (by decide) dX11_hasInverse_28 ?_
    refine j_cVV1 (ci := 3) hX hG lk_X11_379 (ok_X3_prepare ro8 tr8 ik8) (by decide) rfl (Nat.le_of_ble_eq_true rfl) (Nat.le_of_ble_eq_true rfl) (Nat.le_of_ble_eq_true rfl) rfl dX11_hasInverse_31 (fun V_31 h_31 => ?_)
    obtain ⟨a_31, b_31, f_31⟩ := h_31
    rw [e15] at a_31
    rw [e16, e15, e15, e15] at b_31
    have a2_31 : V_31 38 3 = V 15 7 := (f_31 38 3 (by decide)).trans a_8
    have e4_31 : V_31 38 4 = V_8 38 4 := f_31 38 4 (by decide)
    have e5_31 : V_31 38 5 = V_8 38 5 := f_31 38 5 (by decide)
    rw [← e4_31] at b_8
    rw [← e4_31, ← e5_31] at c_8
    have g_31 : fr [17, 18, 38, 39, 40, 41, 42, 43] V V_31 := fr_t (fr_w f_8 (by decide)) (fr_w f_31 (by decide))
    have v_31 : V_31 42 5 = 0 ∨ 1 ≤ V_31 42 5 := b_31.v
    refine j_al0 hX dX11_hasInverse_34 rfl ?_
    refine j_getR (q := 42) hX hG fl_X11_69 rfl rfl (by decide) dX11_hasInverse_35 ?_
    refine j_getI hX hG fl_X11_264 (Or.inl rfl) (by decide) dX11_hasInverse_38 ?_
    refine j_if_le (tgt := 48) hX dX11_hasInverse_41 (by decide) (fun h_41 => ?_) (fun h_41 => ?_)
    · skip
      refine j_iconst hX dX11_hasInverse_48 ⟨by decide, by decide⟩ ?_
      exact j_retZ hR dX11_hasInverse_49 (by omega) (by first | exact ⟨Or.inl ⟨rfl, a_31, b_31, by omega⟩, ⟨a2_31, b_8, c_8⟩, fun _ => b_31, g_31⟩ | exact ⟨Or.inr ⟨rfl, NOI_2 b_31 (by omega)⟩, ⟨a2_31, b_8, c_8⟩, fun _ => b_31, g_31⟩)
    · skip
      refine j_iconst hX dX11_hasInverse_44 ⟨by decide, by decide⟩ ?_
      refine j_goto (tgt := 49) hX dX11_hasInverse_45 (by decide) ?_
      exact j_retZ hR dX11_hasInverse_49 (by omega) (by first | exact ⟨Or.inl ⟨rfl, a_31, b_31, by omega⟩, ⟨a2_31, b_8, c_8⟩, fun _ => b_31, g_31⟩ | exact ⟨Or.inr ⟨rfl, NOI_2 b_31 (by omega)⟩, ⟨a2_31, b_8, c_8⟩, fun _ => b_31, g_31⟩)
  · skip
    refine j_iconst hX dX11_hasInverse_21 ⟨by decide, by decide⟩ ?_
    exact j_retZ hR dX11_hasInverse_22 (by omega) ⟨Or.inr ⟨rfl, NOI_1 ho9 b_8 (by rcases c_8 with q | q; (exfalso; have := q.1; omega); exact q.2)⟩, ⟨a_8, b_8, c_8⟩, (fun q => by rw [e42] at q; exact (hik q).sm e42 e43), fr_w f_8 (by decide)⟩
set_option maxHeartbeats 4000000 in
theorem ok_X11_inverse {V : VV} {a : Int} (ho9 : RO V 15) (ht : TR V 15) (hpk : V 38 3 = V 15 7 → DI (V 16) (V 15 3) (V 15 6) (V 15 5) (V 38 4) ∧ ((V 38 5 = 1 ∧ V 38 4 = 0 ∧ APT (V 16) (V 15 3) (V 15 6) (V 15 5)) ∨ (V 38 5 = 0 ∧ ¬ (V 38 4 = 0 ∧ APT (V 16) (V 15 3) (V 15 6) (V 15 5))))) (hik : V 42 1 = V 15 7 → IVP V (V 16) (V 15 3) (V 15 5) (V 15 4)) : OkX yX11_inverse cX11_inverse 2 (some .int) 8 158 [vA 0, vI a] V (pI (fun x9 V' => ((a = 0 ∧ x9 = V' 42 5) ∨ (a = 1 ∧ x9 = V' 42 6) ∨ (a = 2 ∧ x9 = cntI (fun c => V' 43 c != -1) (V' 42 2 ^ (V' 42 5).toNat).toNat)) ∧ (V' 42 1 = V 15 7 ∧ IVP V' (V 16) (V 15 3) (V 15 5) (V 15 4) ∧ V' 42 5 ≠ 0) ∧ (V' 38 3 = V 15 7 ∧ DI (V 16) (V 15 3) (V 15 6) (V 15 5) (V' 38 4) ∧ ((V' 38 5 = 1 ∧ V' 38 4 = 0 ∧ APT (V 16) (V 15 3) (V 15 6) (V 15 5)) ∨ (V' 38 5 = 0 ∧ ¬ (V' 38 4 = 0 ∧ APT (V 16) (V 15 3) (V 15 6) (V 15 5))))) ∧ (V' 42 1 = V 15 7 → IVP V' (V 16) (V 15 3) (V 15 5) (V 15 4)) ∧ fr [17, 18, 38, 39, 40, 41, 42, 43] V V')) (fun E V' => (E = exA ∧ ¬ (0 ≤ a ∧ a ≤ 2) ∧ V' = V) ∨ (E = exN ∧ (0 ≤ a ∧ a ≤ 2) ∧ NOI (V 16) (V 15 3) (V 15 5) (V 15 4) ∧ (V' 38 3 = V 15 7 ∧ DI (V 16) (V 15 3) (V 15 6) (V 15 5) (V' 38 4) ∧ ((V' 38 5 = 1 ∧ V' 38 4 = 0 ∧ APT (V 16) (V 15 3) (V 15 6) (V 15 5)) ∨ (V' 38 5 = 0 ∧ ¬ (V' 38 4 = 0 ∧ APT (V 16) (V 15 3) (V 15 6) (V 15 5))))) ∧ (V' 42 1 = V 15 7 → IVP V' (V 16) (V 15 3) (V 15 5) (V 15 4)) ∧ fr [17, 18, 38, 39, 40, 41, 42, 43] V V')) := by
  refine OkX.intro (by decide +kernel) (Nat.le_of_ble_eq_true rfl) (fun X G hX hG hR hT hoa hoV => ?_)
  show J X G 0 [vA 0, vI a] [] V
  have hb9 := ho9.b
  refine j_il1 hX dX11_inverse_0 ?_
  refine j_if_lt (tgt := 9) hX dX11_inverse_1 (by decide) (fun h_1 => ?_) (fun h_1 => ?_)
  · skip
    exact j_throw (text := "what is out of range") hX hT th_137 (by decide +kernel) dX11_inverse_9 dX11_inverse_12 dX11_inverse_13 dX11_inverse_15 dX11_inverse_18 (by decide) (Nat.le_of_ble_eq_true rfl) rfl (Or.inl ⟨rfl, by omega, rfl⟩)
  · skip
    refine j_il1 hX dX11_inverse_4 ?_
    refine j_iconst hX dX11_inverse_5 ⟨by decide, by decide⟩ ?_
    refine j_icmp_le (tgt := 19) hX dX11_inverse_6 (by decide) (fun h_6 => ?_) (fun h_6 => ?_)
    · skip
      refine j_al0 hX dX11_inverse_19 rfl ?_
      refine j_cVI0 (ci := 11) hX (gNC hG) lk_X11_259 (ok_X11_hasInverse (by first | assumption | omega | decide) (by first | assumption | omega | decide) (by first | assumption | omega | decide) (by first | assumption | omega | decide)) (by decide) rfl (Nat.le_of_ble_eq_true rfl) (Nat.le_of_ble_eq_true rfl) (Nat.le_of_ble_eq_true rfl) rfl dX11_inverse_20 (fun x_20 V_20 h_20 => ?_)
      obtain ⟨r_20, q_20⟩ := h_20
      refine j_if_ne (tgt := 37) hX dX11_inverse_23 (by decide) (fun h_23 => ?_) (fun h_23 => ?_)
      · skip
        have w_20 := r_20.elim (fun q => q.2) (fun q => absurd q.1 h_23)
        have v_20 := w_20.2.1.b hb9.1 w_20.2.2
        refine j_il1 hX dX11_inverse_37 ?_
        refine j_if_ne (tgt := 49) hX dX11_inverse_38 (by decide) (fun h_38 => ?_) (fun h_38 => ?_)
        · skip
          refine j_il1 hX dX11_inverse_49 ?_
          refine j_iconst hX dX11_inverse_50 ⟨by decide, by decide⟩ ?_
          refine j_icmp_ne (tgt := 64) hX dX11_inverse_51 (by decide) (fun h_51 => ?_) (fun h_51 => ?_)
          · skip
            refine j_al0 hX dX11_inverse_64 rfl ?_
            refine j_getR (q := 42) hX hG fl_X11_69 rfl rfl (by decide) dX11_inverse_65 ?_
            refine j_pVI0 (ci := 3) hX (gNC hG) lk_X11_268 (ok_X3_countWords (by rw [v_20.1]; exact hb9.1) v_20.2) (by decide) rfl (Nat.le_of_ble_eq_true rfl) (Nat.le_of_ble_eq_true rfl) (Nat.le_of_ble_eq_true rfl) rfl dX11_inverse_68 ?_
            exact j_retI hR dX11_inverse_71 (by first | exact ⟨Or.inr (Or.inl ⟨by omega, rfl⟩), w_20, q_20⟩ | exact ⟨Or.inr (Or.inr ⟨by omega, rfl⟩), w_20, q_20⟩)
          · skip
            refine j_al0 hX dX11_inverse_54 rfl ?_
            refine j_getR (q := 42) hX hG fl_X11_69 rfl rfl (by decide) dX11_inverse_55 ?_
            refine j_getI hX hG fl_X11_265 (Or.inl rfl) (by decide) dX11_inverse_58 ?_
            refine j_goto (tgt := 71) hX dX11_inverse_61 (by decide) ?_
            exact j_retI hR dX11_inverse_71 (by first | exact ⟨Or.inr (Or.inl ⟨by omega, rfl⟩), w_20, q_20⟩ | exact ⟨Or.inr (Or.inr ⟨by omega, rfl⟩), w_20, q_20⟩)
        · skip
          refine j_al0 hX dX11_inverse_41 rfl ?_
          refine j_getR (q := 42) hX hG fl_X11_69 rfl rfl (by decide) dX11_inverse_42 ?_
          refine j_getI hX hG fl_X11_264 (Or.inl rfl) (by decide) dX11_inverse_45 ?_
          exact j_retI hR dX11_inverse_48 ⟨Or.inl ⟨by omega, rfl⟩, w_20, q_20⟩
      · skip
        exact j_throwN (text := "there is no inverse rule") hX hT (by decide +kernel) dX11_inverse_26 dX11_inverse_29 dX11_inverse_30 dX11_inverse_33 dX11_inverse_36 (by decide) (Nat.le_of_ble_eq_true rfl) rfl (Or.inr ⟨rfl, by omega, (r_20.elim (fun q => absurd q.1 (by omega)) (fun q => q.2)), q_20⟩)
    · skip
      exact j_throw (text := "what is out of range") hX hT th_137 (by decide +kernel) dX11_inverse_9 dX11_inverse_12 dX11_inverse_13 dX11_inverse_15 dX11_inverse_18 (by decide) (Nat.le_of_ble_eq_true rfl) rfl (Or.inl ⟨rfl, by omega, rfl⟩)
set_option maxHeartbeats 4000000 in
theorem ok_X11_inverseOf {V : VV} {d : Int} (ho9 : RO V 15) (ht : TR V 15) (hpk : V 38 3 = V 15 7 → DI (V 16) (V 15 3) (V 15 6) (V 15 5) (V 38 4) ∧ ((V 38 5 = 1 ∧ V 38 4 = 0 ∧ APT (V 16) (V 15 3) (V 15 6) (V 15 5)) ∨ (V 38 5 = 0 ∧ ¬ (V 38 4 = 0 ∧ APT (V 16) (V 15 3) (V 15 6) (V 15 5))))) (hik : V 42 1 = V 15 7 → IVP V (V 16) (V 15 3) (V 15 5) (V 15 4)) : OkX yX11_inverseOf cX11_inverseOf 3 (some .int) 8 158 [vA 0, vI d] V (pI (fun x9 V' => x9 = bkF V' (decC (V 15 3) (V' 42 5).toNat d) ∧ decC (V 15 3) (V' 42 5).toNat d ≠ -1 ∧ (V' 42 1 = V 15 7 ∧ IVP V' (V 16) (V 15 3) (V 15 5) (V 15 4) ∧ V' 42 5 ≠ 0) ∧ (V' 38 3 = V 15 7 ∧ DI (V 16) (V 15 3) (V 15 6) (V 15 5) (V' 38 4) ∧ ((V' 38 5 = 1 ∧ V' 38 4 = 0 ∧ APT (V 16) (V 15 3) (V 15 6) (V 15 5)) ∨ (V' 38 5 = 0 ∧ ¬ (V' 38 4 = 0 ∧ APT (V 16) (V 15 3) (V 15 6) (V 15 5))))) ∧ (V' 42 1 = V 15 7 → IVP V' (V 16) (V 15 3) (V 15 5) (V 15 4)) ∧ fr [17, 18, 38, 39, 40, 41, 42, 43] V V')) (fun E V' => (E = exN ∧ NOI (V 16) (V 15 3) (V 15 5) (V 15 4) ∧ (V' 38 3 = V 15 7 ∧ DI (V 16) (V 15 3) (V 15 6) (V 15 5) (V' 38 4) ∧ ((V' 38 5 = 1 ∧ V' 38 4 = 0 ∧ APT (V 16) (V 15 3) (V 15 6) (V 15 5)) ∨ (V' 38 5 = 0 ∧ ¬ (V' 38 4 = 0 ∧ APT (V 16) (V 15 3) (V 15 6) (V 15 5))))) ∧ (V' 42 1 = V 15 7 → IVP V' (V 16) (V 15 3) (V 15 5) (V 15 4)) ∧ fr [17, 18, 38, 39, 40, 41, 42, 43] V V') ∨ (E = exA ∧ decC (V 15 3) (V' 42 5).toNat d = -1 ∧ (V' 42 1 = V 15 7 ∧ IVP V' (V 16) (V 15 3) (V 15 5) (V 15 4) ∧ V' 42 5 ≠ 0) ∧ (V' 38 3 = V 15 7 ∧ DI (V 16) (V 15 3) (V 15 6) (V 15 5) (V' 38 4) ∧ ((V' 38 5 = 1 ∧ V' 38 4 = 0 ∧ APT (V 16) (V 15 3) (V 15 6) (V 15 5)) ∨ (V' 38 5 = 0 ∧ ¬ (V' 38 4 = 0 ∧ APT (V 16) (V 15 3) (V 15 6) (V 15 5))))) ∧ (V' 42 1 = V 15 7 → IVP V' (V 16) (V 15 3) (V 15 5) (V 15 4)) ∧ fr [17, 18, 38, 39, 40, 41, 42, 43] V V')) := by
  refine OkX.intro (by decide +kernel) (Nat.le_of_ble_eq_true rfl) (fun X G hX hG hR hT hoa hoV => ?_)
  show J X G 0 [vA 0, vI d, vU] [] V
  have hb9 := ho9.b
  refine j_al0 hX dX11_inverseOf_0 rfl ?_
  refine j_cVI0 (ci := 11) hX (gNC hG) lk_X11_259 (ok_X11_hasInverse (by first | assumption | omega | decide) (by first | assumption | omega | decide) (by first | assumption | omega | decide) (by first | assumption | omega | decide)) (by decide) rfl (Nat.le_of_ble_eq_true rfl) (Nat.le_of_ble_eq_true rfl) (Nat.le_of_ble_eq_true rfl) rfl dX11_inverseOf_1 (fun x_1 V_1 h_1 => ?_)
  obtain ⟨r_1, q_1⟩ := h_1
  refine j_if_ne (tgt := 18) hX dX11_inverseOf_4 (by decide) (fun h_4 => ?_) (fun h_4 => ?_)
  · skip
    have w_1 := r_1.elim (fun q => q.2) (fun q => absurd q.1 h_4)
    have v_1 := w_1.2.1.b hb9.1 w_1.2.2
    refine j_al0 hX dX11_inverseOf_18 rfl ?_
    refine j_getR (q := 42) hX hG fl_X11_69 rfl rfl (by decide) dX11_inverseOf_19 ?_
    refine j_il1 hX dX11_inverseOf_22 ?_
    refine j_pVI1 (ci := 3) hX (gNC hG) lk_X11_270 (ok_X3_codeOfDecimal (by rw [v_1.1]; exact hb9.1) v_1.2) (by decide) rfl (Nat.le_of_ble_eq_true rfl) (Nat.le_of_ble_eq_true rfl) (Nat.le_of_ble_eq_true rfl) rfl dX11_inverseOf_23 ?_
    refine j_eqS (st' := [vI (decC (V 15 3) (V_1 42 5).toNat d)]) (by rw [v_1.1]) ?_
    refine j_is2 hX dX11_inverseOf_26 rfl ?_
    refine j_il2 hX dX11_inverseOf_27 ?_
    refine j_iconst hX dX11_inverseOf_28 ⟨by decide, by decide⟩ ?_
    refine j_icmp_ne (tgt := 43) hX dX11_inverseOf_29 (by decide) (fun h_29 => ?_) (fun h_29 => ?_)
    · skip
      have d_1 := decC_lt hb9.1 v_1.2 h_29
      have s_1 := w_1.2.1.s hb9.1 w_1.2.2 hb9.2.1
      refine j_al0 hX dX11_inverseOf_43 rfl ?_
      refine j_getR (q := 42) hX hG fl_X11_69 rfl rfl (by decide) dX11_inverseOf_44 ?_
      refine j_il2 hX dX11_inverseOf_47 ?_
      refine j_pVI1 (ci := 3) hX (gNC hG) lk_X11_275 (ok_X3_gives (by rw [v_1.1]; exact hb9.1) s_1.1 s_1.2 d_1) (by decide) rfl (Nat.le_of_ble_eq_true rfl) (Nat.le_of_ble_eq_true rfl) (Nat.le_of_ble_eq_true rfl) rfl dX11_inverseOf_48 ?_
      exact j_retI hR dX11_inverseOf_51 ⟨rfl, h_29, w_1, q_1⟩
    · skip
      exact j_throwW (text := "no such word") hX hT th_137 (by decide +kernel) dX11_inverseOf_32 dX11_inverseOf_35 dX11_inverseOf_36 dX11_inverseOf_39 dX11_inverseOf_42 (by decide) (Nat.le_of_ble_eq_true rfl) rfl (Or.inr ⟨rfl, h_29, w_1, q_1⟩)
  · skip
    exact j_throwN (text := "there is no inverse rule") hX hT (by decide +kernel) dX11_inverseOf_7 dX11_inverseOf_10 dX11_inverseOf_11 dX11_inverseOf_14 dX11_inverseOf_17 (by decide) (Nat.le_of_ble_eq_true rfl) rfl (Or.inl ⟨rfl, (r_1.elim (fun q => absurd q.1 (by omega)) (fun q => q.2)), q_1⟩)
set_option maxHeartbeats 4000000 in
theorem ok_X11_sums {V : VV} (ho9 : RO V 15) (ht : TR V 15) (hbk : V 44 4 = V 15 7 → BASP V (V 16) (V 15 3) (V 15 6) (V 15 5)) : Ok NC yX11_sums cX11_sums 1 (some .int) 5 125 [vA 0] V (pI (fun x9 V' => x9 = V' 44 6 ∧ V' 44 4 = V 15 7 ∧ BASP V' (V 16) (V 15 3) (V 15 6) (V 15 5) ∧ fr [44, 45, 46, 47, 48] V V')) := by
  refine Ok.intro (by decide +kernel) (Nat.le_of_ble_eq_true rfl) (fun X G hX hG hR hoa hoV => ?_)
  show J X G 0 [vA 0] [] V
  refine j_al0 hX dX11_sums_0 rfl ?_
  refine j_getR (q := 44) hX hG fl_X11_76 rfl rfl (by decide) dX11_sums_1 ?_
  refine j_al0 hX dX11_sums_4 rfl ?_
  refine j_getR (q := 15) hX hG fl_X11_26 rfl rfl (by decide) dX11_sums_5 ?_
  refine j_cVV1 (ci := 1) hX hG lk_X11_276 (ok_X1_prepare (by first | assumption | omega | decide) (by first | assumption | omega | decide) hbk) (by decide) rfl (Nat.le_of_ble_eq_true rfl) (Nat.le_of_ble_eq_true rfl) (Nat.le_of_ble_eq_true rfl) rfl dX11_sums_8 (fun V_8 h_8 => ?_)
  obtain ⟨a_8, b_8, f_8⟩ := h_8
  refine j_al0 hX dX11_sums_11 rfl ?_
  refine j_getR (q := 44) hX hG fl_X11_76 rfl rfl (by decide) dX11_sums_12 ?_
  refine j_getI hX hG fl_X11_277 (Or.inl rfl) (by decide) dX11_sums_15 ?_
  exact j_retI hR dX11_sums_18 ⟨rfl, a_8, b_8, f_8⟩
set_option maxHeartbeats 4000000 in
theorem ok_X11_sum {V : VV} {r s p : Int} {q : Nat} (ho9 : RO V 15) (ht : TR V 15) (hbk : V 44 4 = V 15 7 → BASP V (V 16) (V 15 3) (V 15 6) (V 15 5)) (hgp : GP V 13 q) : OkX yX11_sum cX11_sum 4 (some .long) 8 130 [vA 0, vI r, vI s, vI p] V (pL (fun x9 V' => (x9 = (if p = 0 then V' 47 (r * 6 + s) else V' 48 (r * 6 + s))) ∧ ((0 ≤ r ∧ r < V' 44 6) ∧ (0 ≤ s ∧ s < V 13 1) ∧ 0 ≤ p ∧ p ≤ 1) ∧ V' 44 4 = V 15 7 ∧ BASP V' (V 16) (V 15 3) (V 15 6) (V 15 5) ∧ fr [44, 45, 46, 47, 48] V V')) (fun E V' => (E = exB ∧ ¬ ((0 ≤ r ∧ r < V' 44 6) ∧ (0 ≤ s ∧ s < V 13 1)) ∧ V' 44 4 = V 15 7 ∧ BASP V' (V 16) (V 15 3) (V 15 6) (V 15 5) ∧ fr [44, 45, 46, 47, 48] V V') ∨ (E = exA ∧ ((0 ≤ r ∧ r < V' 44 6) ∧ (0 ≤ s ∧ s < V 13 1)) ∧ ¬ (0 ≤ p ∧ p ≤ 1) ∧ V' 44 4 = V 15 7 ∧ BASP V' (V 16) (V 15 3) (V 15 6) (V 15 5) ∧ fr [44, 45, 46, 47, 48] V V')) := by
  refine OkX.intro (by decide +kernel) (Nat.le_of_ble_eq_true rfl) (fun X G hX hG hR hT hoa hoV => ?_)
  show J X G 0 [vA 0, vI r, vI s, vI p] [] V
  have hb9 := ho9.b
  have hq6 := gO_le hgp.1
  have hg1 := hgp.2.1
  refine j_al0 hX dX11_sum_0 rfl ?_
  refine j_getR (q := 44) hX hG fl_X11_76 rfl rfl (by decide) dX11_sum_1 ?_
  refine j_al0 hX dX11_sum_4 rfl ?_
  refine j_getR (q := 15) hX hG fl_X11_26 rfl rfl (by decide) dX11_sum_5 ?_
  refine j_cVV1 (ci := 1) hX (gNC hG) lk_X11_276 (ok_X1_prepare (by first | assumption | omega | decide) (by first | assumption | omega | decide) hbk) (by decide) rfl (Nat.le_of_ble_eq_true rfl) (Nat.le_of_ble_eq_true rfl) (Nat.le_of_ble_eq_true rfl) rfl dX11_sum_8 (fun V_8 h_8 => ?_)
  obtain ⟨a_8, b_8, f_8⟩ := h_8
  have d_8 := b_8.d hb9.1
  have q13 : V_8 13 1 = V 13 1 := f_8 13 1 (by decide)
  refine j_il1 hX dX11_sum_11 ?_
  refine j_if_lt (tgt := 37) hX dX11_sum_12 (by decide) (fun h_12 => ?_) (fun h_12 => ?_)
  · skip
    exact j_throwW (text := "no such row or state") hX hT th_128 (by decide +kernel) dX11_sum_37 dX11_sum_40 dX11_sum_41 dX11_sum_44 dX11_sum_47 (by decide) (Nat.le_of_ble_eq_true rfl) rfl (Or.inl ⟨rfl, by omega, a_8, b_8, f_8⟩)
  · skip
    refine j_il1 hX dX11_sum_15 ?_
    refine j_al0 hX dX11_sum_16 rfl ?_
    refine j_getR (q := 44) hX hG fl_X11_76 rfl rfl (by decide) dX11_sum_17 ?_
    refine j_getI hX hG fl_X11_277 (Or.inl rfl) (by decide) dX11_sum_20 ?_
    refine j_icmp_ge (tgt := 37) hX dX11_sum_23 (by decide) (fun h_23 => ?_) (fun h_23 => ?_)
    · skip
      exact j_throwW (text := "no such row or state") hX hT th_128 (by decide +kernel) dX11_sum_37 dX11_sum_40 dX11_sum_41 dX11_sum_44 dX11_sum_47 (by decide) (Nat.le_of_ble_eq_true rfl) rfl (Or.inl ⟨rfl, by omega, a_8, b_8, f_8⟩)
    · skip
      refine j_al0 hX dX11_sum_26 rfl ?_
      refine j_getR (q := 13) hX hG fl_X11_19 rfl rfl (by decide) dX11_sum_27 ?_
      refine j_il2 hX dX11_sum_30 ?_
      refine j_pVI1 (ci := 2) hX (gNC hG) lk_X11_174 (ok_X2_has (by first | assumption | omega | decide)) (by decide) rfl (Nat.le_of_ble_eq_true rfl) (Nat.le_of_ble_eq_true rfl) (Nat.le_of_ble_eq_true rfl) rfl dX11_sum_31 ?_
      try dsimp only [Int.reduceAdd]
      refine j_ifz_ne (tgt := 48) hX dX11_sum_34 (by decide) (fun h_34 => ?_) (fun h_34 => ?_)
      · skip
        refine j_il3 hX dX11_sum_48 ?_
        refine j_if_lt (tgt := 57) hX dX11_sum_49 (by decide) (fun h_49 => ?_) (fun h_49 => ?_)
        · skip
          exact j_throwW (text := "part is out of range") hX hT th_137 (by decide +kernel) dX11_sum_57 dX11_sum_60 dX11_sum_61 dX11_sum_64 dX11_sum_67 (by decide) (Nat.le_of_ble_eq_true rfl) rfl (Or.inr ⟨rfl, by omega, by omega, a_8, b_8, f_8⟩)
        · skip
          refine j_il3 hX dX11_sum_52 ?_
          refine j_iconst hX dX11_sum_53 ⟨by decide, by decide⟩ ?_
          refine j_icmp_le (tgt := 68) hX dX11_sum_54 (by decide) (fun h_54 => ?_) (fun h_54 => ?_)
          · skip
            refine j_al0 hX dX11_sum_68 rfl ?_
            refine j_getR (q := 44) hX hG fl_X11_76 rfl rfl (by decide) dX11_sum_69 ?_
            refine j_il1 hX dX11_sum_72 ?_
            refine j_il2 hX dX11_sum_73 ?_
            refine j_il3 hX dX11_sum_74 ?_
            refine j_pVL3 (ci := 1) hX (gNC hG) lk_X11_284 (ok_X1_part (by omega) (by omega)) (by decide) rfl (Nat.le_of_ble_eq_true rfl) (Nat.le_of_ble_eq_true rfl) (Nat.le_of_ble_eq_true rfl) rfl dX11_sum_75 ?_
            exact j_retL hR dX11_sum_78 ⟨rfl, by omega, a_8, b_8, f_8⟩
          · skip
            exact j_throwW (text := "part is out of range") hX hT th_137 (by decide +kernel) dX11_sum_57 dX11_sum_60 dX11_sum_61 dX11_sum_64 dX11_sum_67 (by decide) (Nat.le_of_ble_eq_true rfl) rfl (Or.inr ⟨rfl, by omega, by omega, a_8, b_8, f_8⟩)
      · skip
        exact j_throwW (text := "no such row or state") hX hT th_128 (by decide +kernel) dX11_sum_37 dX11_sum_40 dX11_sum_41 dX11_sum_44 dX11_sum_47 (by decide) (Nat.le_of_ble_eq_true rfl) rfl (Or.inl ⟨rfl, by omega, a_8, b_8, f_8⟩)
set_option maxHeartbeats 4000000 in
theorem ok_X11_value {V : VV} {r p : Int} (ho9 : RO V 15) (ht : TR V 15) (hbk : V 44 4 = V 15 7 → BASP V (V 16) (V 15 3) (V 15 6) (V 15 5)) (hn : 1 ≤ V 23 1 ∧ V 23 1 ≤ 16) (hQ : ∀ k, 0 ≤ k → k < V 23 1 → 0 ≤ V 24 k ∧ V 24 k < V 15 3) : OkX yX11_value cX11_value 3 (some .long) 8 130 [vA 0, vI r, vI p] V (pL (fun x9 V' => (x9 = (if p = 0 then (valF (fun s => V' 47 (r * 6 + s)) (fun s => V' 48 (r * 6 + s)) (V 24) (V 23 1).toNat).1 else (valF (fun s => V' 47 (r * 6 + s)) (fun s => V' 48 (r * 6 + s)) (V 24) (V 23 1).toNat).2)) ∧ ((0 ≤ r ∧ r < V' 44 6) ∧ 0 ≤ p ∧ p ≤ 1) ∧ V' 44 4 = V 15 7 ∧ BASP V' (V 16) (V 15 3) (V 15 6) (V 15 5) ∧ fr [44, 45, 46, 47, 48] V V')) (fun E V' => (E = exB ∧ ¬ (0 ≤ r ∧ r < V' 44 6) ∧ V' 44 4 = V 15 7 ∧ BASP V' (V 16) (V 15 3) (V 15 6) (V 15 5) ∧ fr [44, 45, 46, 47, 48] V V') ∨ (E = exA ∧ (0 ≤ r ∧ r < V' 44 6) ∧ ¬ (0 ≤ p ∧ p ≤ 1) ∧ V' 44 4 = V 15 7 ∧ BASP V' (V 16) (V 15 3) (V 15 6) (V 15 5) ∧ fr [44, 45, 46, 47, 48] V V')) := by
  refine OkX.intro (by decide +kernel) (Nat.le_of_ble_eq_true rfl) (fun X G hX hG hR hT hoa hoV => ?_)
  show J X G 0 [vA 0, vI r, vI p] [] V
  have hb9 := ho9.b
  refine j_al0 hX dX11_value_0 rfl ?_
  refine j_getR (q := 44) hX hG fl_X11_76 rfl rfl (by decide) dX11_value_1 ?_
  refine j_al0 hX dX11_value_4 rfl ?_
  refine j_getR (q := 15) hX hG fl_X11_26 rfl rfl (by decide) dX11_value_5 ?_
  refine j_cVV1 (ci := 1) hX (gNC hG) lk_X11_276 (ok_X1_prepare (by first | assumption | omega | decide) (by first | assumption | omega | decide) hbk) (by decide) rfl (Nat.le_of_ble_eq_true rfl) (Nat.le_of_ble_eq_true rfl) (Nat.le_of_ble_eq_true rfl) rfl dX11_value_8 (fun V_8 h_8 => ?_)
  obtain ⟨a_8, b_8, f_8⟩ := h_8
  have d_8 := b_8.d hb9.1
  have q13 : V_8 13 1 = V 13 1 := f_8 13 1 (by decide)
  have q23 : V_8 23 1 = V 23 1 := f_8 23 1 (by decide)
  have q24 : V_8 24 = V 24 := funext fun b => f_8 24 b (by decide)
  refine j_il1 hX dX11_value_11 ?_
  refine j_if_lt (tgt := 26) hX dX11_value_12 (by decide) (fun h_12 => ?_) (fun h_12 => ?_)
  · skip
    exact j_throwW (text := "no such row") hX hT th_128 (by decide +kernel) dX11_value_26 dX11_value_29 dX11_value_30 dX11_value_33 dX11_value_36 (by decide) (Nat.le_of_ble_eq_true rfl) rfl (Or.inl ⟨rfl, by omega, a_8, b_8, f_8⟩)
  · skip
    refine j_il1 hX dX11_value_15 ?_
    refine j_al0 hX dX11_value_16 rfl ?_
    refine j_getR (q := 44) hX hG fl_X11_76 rfl rfl (by decide) dX11_value_17 ?_
    refine j_getI hX hG fl_X11_277 (Or.inl rfl) (by decide) dX11_value_20 ?_
    refine j_icmp_lt (tgt := 37) hX dX11_value_23 (by decide) (fun h_23 => ?_) (fun h_23 => ?_)
    · skip
      refine j_il2 hX dX11_value_37 ?_
      refine j_if_lt (tgt := 46) hX dX11_value_38 (by decide) (fun h_38 => ?_) (fun h_38 => ?_)
      · skip
        exact j_throwW (text := "part is out of range") hX hT th_137 (by decide +kernel) dX11_value_46 dX11_value_49 dX11_value_50 dX11_value_53 dX11_value_56 (by decide) (Nat.le_of_ble_eq_true rfl) rfl (Or.inr ⟨rfl, by omega, by omega, a_8, b_8, f_8⟩)
      · skip
        refine j_il2 hX dX11_value_41 ?_
        refine j_iconst hX dX11_value_42 ⟨by decide, by decide⟩ ?_
        refine j_icmp_le (tgt := 57) hX dX11_value_43 (by decide) (fun h_43 => ?_) (fun h_43 => ?_)
        · skip
          refine j_al0 hX dX11_value_57 rfl ?_
          refine j_getR (q := 44) hX hG fl_X11_76 rfl rfl (by decide) dX11_value_58 ?_
          refine j_al0 hX dX11_value_61 rfl ?_
          refine j_getR (q := 23) hX hG fl_X11_36 rfl rfl (by decide) dX11_value_62 ?_
          refine j_il1 hX dX11_value_65 ?_
          refine j_il2 hX dX11_value_66 ?_
          refine j_pVL3 (ci := 1) hX (gNC hG) lk_X11_290 (ok_X1_partOfValue (by omega) hb9.1 (b_8.v hb9.1 (by omega)) (by omega) (fun k k0 k1 => by rw [q24]; exact hQ k k0 (by omega))) (by decide) rfl (Nat.le_of_ble_eq_true rfl) (Nat.le_of_ble_eq_true rfl) (Nat.le_of_ble_eq_true rfl) rfl dX11_value_67 ?_
          exact j_retL hR dX11_value_70 ⟨by rw [q24, q23], by omega, a_8, b_8, f_8⟩
        · skip
          exact j_throwW (text := "part is out of range") hX hT th_137 (by decide +kernel) dX11_value_46 dX11_value_49 dX11_value_50 dX11_value_53 dX11_value_56 (by decide) (Nat.le_of_ble_eq_true rfl) rfl (Or.inr ⟨rfl, by omega, by omega, a_8, b_8, f_8⟩)
    · skip
      exact j_throwW (text := "no such row") hX hT th_128 (by decide +kernel) dX11_value_26 dX11_value_29 dX11_value_30 dX11_value_33 dX11_value_36 (by decide) (Nat.le_of_ble_eq_true rfl) rfl (Or.inl ⟨rfl, by omega, a_8, b_8, f_8⟩)
set_option maxHeartbeats 4000000 in
theorem ok_X11_preimages {V : VV} (ho9 : RO V 15) (hn : 1 ≤ V 23 1 ∧ V 23 1 ≤ 16) : Ok NC yX11_preimages cX11_preimages 1 (some .long) 6 140 [vA 0] V (pL (fun x9 V' => x9 = CLW (V 16) (V 24) (V 15 3) (V 15 6) (V 15 5) (V 15 4) (V 23 1) ∧ fr [50, 51] V V')) := by
  refine Ok.intro (by decide +kernel) (Nat.le_of_ble_eq_true rfl) (fun X G hX hG hR hoa hoV => ?_)
  show J X G 0 [vA 0] [] V
  refine j_al0 hX dX11_preimages_0 rfl ?_
  refine j_getR (q := 49) hX hG fl_X11_83 rfl rfl (by decide) dX11_preimages_1 ?_
  refine j_al0 hX dX11_preimages_4 rfl ?_
  refine j_getR (q := 15) hX hG fl_X11_26 rfl rfl (by decide) dX11_preimages_5 ?_
  refine j_al0 hX dX11_preimages_8 rfl ?_
  refine j_getR (q := 23) hX hG fl_X11_36 rfl rfl (by decide) dX11_preimages_9 ?_
  refine j_cVL2 (ci := 10) hX hG lk_X11_307 (ok_X10_count (by first | assumption | omega | decide) (Or.inr (Or.inl rfl)) (by decide) (by first | assumption | omega | decide)) (by decide) rfl (Nat.le_of_ble_eq_true rfl) (Nat.le_of_ble_eq_true rfl) (Nat.le_of_ble_eq_true rfl) rfl dX11_preimages_12 (fun x_12 V_12 h_12 => ?_)
  dsimp only [Int.reduceAdd] at h_12
  exact j_retL hR dX11_preimages_15 h_12
set_option maxHeartbeats 4000000 in
theorem ok_X11_preimage {V : VV} {k : Int} (ho9 : RO V 15) (ht : TR V 15) (hn : 1 ≤ V 23 1 ∧ V 23 1 ≤ 16) (hQ : ∀ k, 0 ≤ k → k < V 23 1 → 0 ≤ V 24 k ∧ V 24 k < V 15 3) : OkX yX11_preimage cX11_preimage 2 (some .int) 8 138 [vA 0, vI k] V (pI (fun x9 V' => (x9 = V' 30 k ∧ (0 ≤ k ∧ k < V 23 1) ∧ FST (V 16) (V 15 3) (V 15 4) (V 23 1) (V 24) (V' 30)) ∧ fr [17, 18, 29, 30, 52] V V')) (fun E V' => (E = exB ∧ ¬ (0 ≤ k ∧ k < V 23 1) ∧ V' = V) ∨ (E = exN ∧ ((0 ≤ k ∧ k < V 23 1) ∧ ∀ x, ¬ SOL (V 16) (V 15 3) (V 15 4) (V 23 1) (V 24) x) ∧ fr [17, 18, 29, 30, 52] V V')) := by
  refine OkX.intro (by decide +kernel) (Nat.le_of_ble_eq_true rfl) (fun X G hX hG hR hT hoa hoV => ?_)
  show J X G 0 [vA 0, vI k] [] V
  refine j_al0 hX dX11_preimage_0 rfl ?_
  refine j_getR (q := 23) hX hG fl_X11_36 rfl rfl (by decide) dX11_preimage_1 ?_
  refine j_il1 hX dX11_preimage_4 ?_
  refine j_pVI1 (ci := 7) hX (gNC hG) lk_X11_294 (ok_X7_has (by decide)) (by decide) rfl (Nat.le_of_ble_eq_true rfl) (Nat.le_of_ble_eq_true rfl) (Nat.le_of_ble_eq_true rfl) rfl dX11_preimage_5 ?_
  try dsimp only [Int.reduceAdd]
  refine j_ifz_ne (tgt := 22) hX dX11_preimage_8 (by decide) (fun h_8 => ?_) (fun h_8 => ?_)
  · skip
    refine j_al0 hX dX11_preimage_22 rfl ?_
    refine j_getR (q := 49) hX hG fl_X11_83 rfl rfl (by decide) dX11_preimage_23 ?_
    refine j_al0 hX dX11_preimage_26 rfl ?_
    refine j_getR (q := 15) hX hG fl_X11_26 rfl rfl (by decide) dX11_preimage_27 ?_
    refine j_al0 hX dX11_preimage_30 rfl ?_
    refine j_getR (q := 23) hX hG fl_X11_36 rfl rfl (by decide) dX11_preimage_31 ?_
    refine j_al0 hX dX11_preimage_34 rfl ?_
    refine j_getR (q := 29) hX hG fl_X11_46 rfl rfl (by decide) dX11_preimage_35 ?_
    refine j_cVI3 (ci := 10) hX (gNC hG) lk_X11_310 (ok_X10_findFirst (by first | assumption | omega | decide) (by first | assumption | omega | decide) (by first | assumption | omega | decide) (by first | assumption | omega | decide)) (by decide) rfl (Nat.le_of_ble_eq_true rfl) (Nat.le_of_ble_eq_true rfl) (Nat.le_of_ble_eq_true rfl) rfl dX11_preimage_38 (fun x_38 V_38 h_38 => ?_)
    obtain ⟨r_38, f_38⟩ := h_38
    refine j_if_ne (tgt := 55) hX dX11_preimage_41 (by decide) (fun h_41 => ?_) (fun h_41 => ?_)
    · skip
      have w_38 := r_38.elim (fun q => q.2) (fun q => absurd q.1 h_41)
      refine j_al0 hX dX11_preimage_55 rfl ?_
      refine j_getR (q := 29) hX hG fl_X11_46 rfl rfl (by decide) dX11_preimage_56 ?_
      refine j_il1 hX dX11_preimage_59 ?_
      refine j_pVI1 (ci := 7) hX (gNC hG) lk_X11_297 (ok_X7_stateOf (by decide) (by omega)) (by decide) rfl (Nat.le_of_ble_eq_true rfl) (Nat.le_of_ble_eq_true rfl) (Nat.le_of_ble_eq_true rfl) rfl dX11_preimage_60 ?_
      try dsimp only [Int.reduceAdd]
      exact j_retI hR dX11_preimage_63 ⟨⟨rfl, h_8, w_38.1⟩, f_38⟩
    · skip
      exact j_throwN (text := "there is no such ring") hX hT (by decide +kernel) dX11_preimage_44 dX11_preimage_47 dX11_preimage_48 dX11_preimage_51 dX11_preimage_54 (by decide) (Nat.le_of_ble_eq_true rfl) rfl (Or.inr ⟨rfl, ⟨h_8, r_38.elim (fun q => absurd q.1 (by omega)) (fun q => q.2)⟩, f_38⟩)
  · skip
    exact j_throwW (text := "no such cell") hX hT th_128 (by decide +kernel) dX11_preimage_11 dX11_preimage_14 dX11_preimage_15 dX11_preimage_18 dX11_preimage_21 (by decide) (Nat.le_of_ble_eq_true rfl) rfl (Or.inl ⟨rfl, h_8, rfl⟩)
set_option maxHeartbeats 4000000 in
theorem ok_X11_cycle {V : VV} {a : Int} (ho9 : RO V 15) (ht : TR V 15) (hn : 1 ≤ V 23 1 ∧ V 23 1 ≤ 16) (hQ : ∀ k, 0 ≤ k → k < V 23 1 → 0 ≤ V 24 k ∧ V 24 k < V 15 3) : OkX yX11_cycle cX11_cycle 2 (some .int) 8 130 [vA 0, vI a] V (pI (fun x9 V' => (((a = 0 ∧ x9 = V' 53 1) ∨ (a = 1 ∧ x9 = V' 53 2)) ∧ CYS (EQO (V 16) (V 15 3) (V 15 4) (V 23 1) (V 24)) (V' 53 1) (V' 53 2)) ∧ fr [29, 30, 31, 32, 53, 54] V V')) (fun E V' => (E = exA ∧ ¬ (0 ≤ a ∧ a ≤ 1) ∧ V' = V) ∨ (E = exN ∧ ((0 ≤ a ∧ a ≤ 1) ∧ CYN (EQO (V 16) (V 15 3) (V 15 4) (V 23 1) (V 24))) ∧ fr [29, 30, 31, 32, 53, 54] V V')) := by
  refine OkX.intro (by decide +kernel) (Nat.le_of_ble_eq_true rfl) (fun X G hX hG hR hT hoa hoV => ?_)
  show J X G 0 [vA 0, vI a] [] V
  refine j_il1 hX dX11_cycle_0 ?_
  refine j_if_lt (tgt := 9) hX dX11_cycle_1 (by decide) (fun h_1 => ?_) (fun h_1 => ?_)
  · skip
    exact j_throw (text := "what is out of range") hX hT th_137 (by decide +kernel) dX11_cycle_9 dX11_cycle_12 dX11_cycle_13 dX11_cycle_15 dX11_cycle_18 (by decide) (Nat.le_of_ble_eq_true rfl) rfl (Or.inl ⟨rfl, by omega, rfl⟩)
  · skip
    refine j_il1 hX dX11_cycle_4 ?_
    refine j_iconst hX dX11_cycle_5 ⟨by decide, by decide⟩ ?_
    refine j_icmp_le (tgt := 19) hX dX11_cycle_6 (by decide) (fun h_6 => ?_) (fun h_6 => ?_)
    · skip
      refine j_al0 hX dX11_cycle_19 rfl ?_
      refine j_getR (q := 53) hX hG fl_X11_90 rfl rfl (by decide) dX11_cycle_20 ?_
      refine j_al0 hX dX11_cycle_23 rfl ?_
      refine j_getR (q := 15) hX hG fl_X11_26 rfl rfl (by decide) dX11_cycle_24 ?_
      refine j_al0 hX dX11_cycle_27 rfl ?_
      refine j_getR (q := 23) hX hG fl_X11_36 rfl rfl (by decide) dX11_cycle_28 ?_
      refine j_al0 hX dX11_cycle_31 rfl ?_
      refine j_getR (q := 29) hX hG fl_X11_46 rfl rfl (by decide) dX11_cycle_32 ?_
      refine j_al0 hX dX11_cycle_35 rfl ?_
      refine j_getR (q := 31) hX hG fl_X11_49 rfl rfl (by decide) dX11_cycle_36 ?_
      refine j_cVI4 (ci := 5) hX (gNC hG) lk_X11_316 (ok_X5_follow (by first | assumption | omega | decide) (by first | assumption | omega | decide) (by first | assumption | omega | decide) (by first | assumption | omega | decide)) (by decide) rfl (Nat.le_of_ble_eq_true rfl) (Nat.le_of_ble_eq_true rfl) (Nat.le_of_ble_eq_true rfl) rfl dX11_cycle_39 (fun x_39 V_39 h_39 => ?_)
      obtain ⟨r_39, f_39⟩ := h_39
      refine j_if_ne (tgt := 56) hX dX11_cycle_42 (by decide) (fun h_42 => ?_) (fun h_42 => ?_)
      · skip
        have w_39 := r_39.elim (fun q => q.2) (fun q => absurd q.1 h_42)
        refine j_il1 hX dX11_cycle_56 ?_
        refine j_if_ne (tgt := 70) hX dX11_cycle_57 (by decide) (fun h_57 => ?_) (fun h_57 => ?_)
        · skip
          refine j_al0 hX dX11_cycle_70 rfl ?_
          refine j_getR (q := 53) hX hG fl_X11_90 rfl rfl (by decide) dX11_cycle_71 ?_
          refine j_getI hX hG fl_X11_325 (Or.inl rfl) (by decide) dX11_cycle_74 ?_
          exact j_retI hR dX11_cycle_77 ⟨⟨by first | exact Or.inl ⟨by omega, rfl⟩ | exact Or.inr ⟨by omega, rfl⟩, w_39⟩, f_39⟩
        · skip
          refine j_al0 hX dX11_cycle_60 rfl ?_
          refine j_getR (q := 53) hX hG fl_X11_90 rfl rfl (by decide) dX11_cycle_61 ?_
          refine j_getI hX hG fl_X11_322 (Or.inl rfl) (by decide) dX11_cycle_64 ?_
          refine j_goto (tgt := 77) hX dX11_cycle_67 (by decide) ?_
          exact j_retI hR dX11_cycle_77 ⟨⟨by first | exact Or.inl ⟨by omega, rfl⟩ | exact Or.inr ⟨by omega, rfl⟩, w_39⟩, f_39⟩
      · skip
        exact j_throwN (text := "no ring comes twice soon enough") hX hT (by decide +kernel) dX11_cycle_45 dX11_cycle_48 dX11_cycle_49 dX11_cycle_52 dX11_cycle_55 (by decide) (Nat.le_of_ble_eq_true rfl) rfl (Or.inr ⟨rfl, ⟨by omega, r_39.elim (fun q => absurd q.1 (by omega)) (fun q => q.2)⟩, f_39⟩)
    · skip
      exact j_throw (text := "what is out of range") hX hT th_137 (by decide +kernel) dX11_cycle_9 dX11_cycle_12 dX11_cycle_13 dX11_cycle_15 dX11_cycle_18 (by decide) (Nat.le_of_ble_eq_true rfl) rfl (Or.inl ⟨rfl, by omega, rfl⟩)
set_option maxHeartbeats 4000000 in
theorem ok_X11_kernel {V : VV} {a : Int} (ho9 : RO V 15) : OkX yX11_kernel cX11_kernel 2 (some .long) 8 140 [vA 0, vI a] V (pL (fun x9 V' => ((1 ≤ a ∧ a ≤ 16) ∧ x9 = CLW (V 16) (V' 30) (V 15 3) (V 15 6) (V 15 5) (V 15 4) a ∧ (∀ k, 0 ≤ k → k < 16 → V' 30 k = 0)) ∧ fr [29, 30, 50, 51] V V')) (fun E V' => (E = exA ∧ ¬ (1 ≤ a ∧ a ≤ 16) ∧ V' = V)) := by
  refine OkX.intro (by decide +kernel) (Nat.le_of_ble_eq_true rfl) (fun X G hX hG hR hT hoa hoV => ?_)
  show J X G 0 [vA 0, vI a] [] V
  refine j_il1 hX dX11_kernel_0 ?_
  refine j_iconst hX dX11_kernel_1 ⟨by decide, by decide⟩ ?_
  refine j_icmp_lt (tgt := 11) hX dX11_kernel_2 (by decide) (fun h_2 => ?_) (fun h_2 => ?_)
  · skip
    exact j_throwW (text := "no such size") hX hT th_137 (by decide +kernel) dX11_kernel_11 dX11_kernel_14 dX11_kernel_15 dX11_kernel_18 dX11_kernel_21 (by decide) (Nat.le_of_ble_eq_true rfl) rfl ⟨rfl, by omega, rfl⟩
  · skip
    refine j_il1 hX dX11_kernel_5 ?_
    refine j_bipush hX dX11_kernel_6 (by decide) ⟨by decide, by decide⟩ ?_
    refine j_icmp_le (tgt := 22) hX dX11_kernel_8 (by decide) (fun h_8 => ?_) (fun h_8 => ?_)
    · skip
      refine j_al0 hX dX11_kernel_22 rfl ?_
      refine j_getR (q := 29) hX hG fl_X11_46 rfl rfl (by decide) dX11_kernel_23 ?_
      refine j_il1 hX dX11_kernel_26 ?_
      refine j_cVV1 (ci := 7) hX (gNC hG) lk_X11_333 (ok_X7_becomeNeutral (by decide)) (by decide) rfl (Nat.le_of_ble_eq_true rfl) (Nat.le_of_ble_eq_true rfl) (Nat.le_of_ble_eq_true rfl) rfl dX11_kernel_27 (fun V_27 h_27 => ?_)
      subst h_27
      dsimp only [Int.reduceAdd]
      obtain ⟨U, hU⟩ : ∃ U, U = fillV (up V 29 1 a) 30 16 0 := ⟨_, rfl⟩
      rw [← hU]
      have fU : fr [29, 30] V U := by rw [hU]; exact fr_f (fr_u fr_0 (by decide)) (by decide)
      have z30 : ∀ k, 0 ≤ k → k < 16 → U 30 k = 0 := fun k k0 k1 => by rw [hU]; exact if_pos ⟨rfl, k0, k1⟩
      have l29 : U 29 1 = a := by rw [hU]; show (if (29 : Int) = 30 ∧ _ then (0 : Int) else _) = a; rw [if_neg (fun q => absurd q.1 (by decide))]; exact up_s ..
      clear hU
      try dsimp only [Int.reduceAdd]
      refine j_al0 hX dX11_kernel_30 rfl ?_
      refine j_getR (q := 49) hX hG fl_X11_83 rfl rfl (by decide) dX11_kernel_31 ?_
      refine j_al0 hX dX11_kernel_34 rfl ?_
      refine j_getR (q := 15) hX hG fl_X11_26 rfl rfl (by decide) dX11_kernel_35 ?_
      have e15 : ∀ b, U 15 b = V 15 b := fun b => fU 15 b (by decide)
      have e16 : U 16 = V 16 := funext fun b => fU 16 b (by decide)
      have roU : RO U 15 := ho9.sm e15
      refine j_al0 hX dX11_kernel_38 rfl ?_
      refine j_getR (q := 29) hX hG fl_X11_46 rfl rfl (by decide) dX11_kernel_39 ?_
      refine j_cVL2 (ci := 10) hX (gNC hG) lk_X11_307 (ok_X10_count roU (Or.inr (Or.inl rfl)) (by decide) (by rw [l29]; omega)) (by decide) rfl (Nat.le_of_ble_eq_true rfl) (Nat.le_of_ble_eq_true rfl) (Nat.le_of_ble_eq_true rfl) rfl dX11_kernel_42 (fun x_42 V_42 h_42 => ?_)
      obtain ⟨r_42, f_42⟩ := h_42
      dsimp only [Int.reduceAdd] at r_42
      exact j_retL hR dX11_kernel_45 ⟨⟨by omega, by rw [r_42, e16, e15, e15, e15, e15, l29, show V_42 30 = U 30 from funext fun b => f_42 30 b (by decide)], fun k k0 k1 => by rw [f_42 30 k (by decide)]; exact z30 k k0 k1⟩, fr_t (fr_w fU (by decide)) (fr_w f_42 (by decide))⟩
    · skip
      exact j_throwW (text := "no such size") hX hT th_137 (by decide +kernel) dX11_kernel_11 dX11_kernel_14 dX11_kernel_15 dX11_kernel_18 dX11_kernel_21 (by decide) (Nat.le_of_ble_eq_true rfl) rfl ⟨rfl, by omega, rfl⟩
set_option maxHeartbeats 4000000 in
theorem ok_X11_fixed {V : VV} {a : Int} (ho9 : RO V 15) (hmv : 0 ≤ V 19 7 ∧ V 19 7 ≤ 1000000) : OkX yX11_fixed cX11_fixed 2 (some .long) 8 140 [vA 0, vI a] V (pL (fun x9 V' => ((1 ≤ a ∧ a ≤ 16) ∧ x9 = CLW (V' 20) (V' 30) (V 15 3) (V 15 6) (V 15 5) (V 15 4) a ∧ (∀ k, 0 ≤ k → k < 16 → V' 30 k = 0) ∧ (∀ e, 0 ≤ e → e < V 15 5 → V' 20 e = if V 16 e = dg (V 15 3) e 1 then 0 else 1) ∧ V' 19 7 = V 19 7 + 1) ∧ fr [19, 20, 29, 30, 50, 51] V V')) (fun E V' => (E = exA ∧ ¬ (1 ≤ a ∧ a ≤ 16) ∧ V' = V)) := by
  refine OkX.intro (by decide +kernel) (Nat.le_of_ble_eq_true rfl) (fun X G hX hG hR hT hoa hoV => ?_)
  show J X G 0 [vA 0, vI a] [] V
  refine j_il1 hX dX11_fixed_0 ?_
  refine j_iconst hX dX11_fixed_1 ⟨by decide, by decide⟩ ?_
  refine j_icmp_lt (tgt := 11) hX dX11_fixed_2 (by decide) (fun h_2 => ?_) (fun h_2 => ?_)
  · skip
    exact j_throwW (text := "no such size") hX hT th_137 (by decide +kernel) dX11_fixed_11 dX11_fixed_14 dX11_fixed_15 dX11_fixed_18 dX11_fixed_21 (by decide) (Nat.le_of_ble_eq_true rfl) rfl ⟨rfl, by omega, rfl⟩
  · skip
    refine j_il1 hX dX11_fixed_5 ?_
    refine j_bipush hX dX11_fixed_6 (by decide) ⟨by decide, by decide⟩ ?_
    refine j_icmp_le (tgt := 22) hX dX11_fixed_8 (by decide) (fun h_8 => ?_) (fun h_8 => ?_)
    · skip
      refine j_al0 hX dX11_fixed_22 rfl ?_
      refine j_getR (q := 19) hX hG fl_X11_30 rfl rfl (by decide) dX11_fixed_23 ?_
      refine j_al0 hX dX11_fixed_26 rfl ?_
      refine j_getR (q := 15) hX hG fl_X11_26 rfl rfl (by decide) dX11_fixed_27 ?_
      refine j_cVV1 (ci := 8) hX (gNC hG) lk_X11_330 (ok_X8_becomeMoverOf (by first | assumption | omega | decide) hmv) (by decide) rfl (Nat.le_of_ble_eq_true rfl) (Nat.le_of_ble_eq_true rfl) (Nat.le_of_ble_eq_true rfl) rfl dX11_fixed_30 (fun V_30 h_30 => ?_)
      obtain ⟨o_30, p3_30, p4_30, v_30, t_30, s_30⟩ := h_30
      have f_30 := fr_s2 s_30
      obtain ⟨p5_30, p6_30⟩ := RO_56 ho9 o_30 p3_30 p4_30
      refine j_al0 hX dX11_fixed_33 rfl ?_
      refine j_getR (q := 29) hX hG fl_X11_46 rfl rfl (by decide) dX11_fixed_34 ?_
      refine j_il1 hX dX11_fixed_37 ?_
      refine j_cVV1 (ci := 7) hX (gNC hG) lk_X11_333 (ok_X7_becomeNeutral (by decide)) (by decide) rfl (Nat.le_of_ble_eq_true rfl) (Nat.le_of_ble_eq_true rfl) (Nat.le_of_ble_eq_true rfl) rfl dX11_fixed_38 (fun V_38 h_38 => ?_)
      subst h_38
      dsimp only [Int.reduceAdd]
      obtain ⟨U, hU⟩ : ∃ U, U = fillV (up V_30 29 1 a) 30 16 0 := ⟨_, rfl⟩
      rw [← hU]
      have fU : fr [29, 30] V_30 U := by rw [hU]; exact fr_f (fr_u fr_0 (by decide)) (by decide)
      have z30 : ∀ k, 0 ≤ k → k < 16 → U 30 k = 0 := fun k k0 k1 => by rw [hU]; exact if_pos ⟨rfl, k0, k1⟩
      have l29 : U 29 1 = a := by rw [hU]; show (if (29 : Int) = 30 ∧ _ then (0 : Int) else _) = a; rw [if_neg (fun q => absurd q.1 (by decide))]; exact up_s ..
      clear hU
      try dsimp only [Int.reduceAdd]
      refine j_al0 hX dX11_fixed_41 rfl ?_
      refine j_getR (q := 49) hX hG fl_X11_83 rfl rfl (by decide) dX11_fixed_42 ?_
      refine j_al0 hX dX11_fixed_45 rfl ?_
      refine j_getR (q := 19) hX hG fl_X11_30 rfl rfl (by decide) dX11_fixed_46 ?_
      have e19 : ∀ b, U 19 b = V_30 19 b := fun b => fU 19 b (by decide)
      have e20 : U 20 = V_30 20 := funext fun b => fU 20 b (by decide)
      have roU : RO U 19 := o_30.sm e19
      refine j_al0 hX dX11_fixed_49 rfl ?_
      refine j_getR (q := 29) hX hG fl_X11_46 rfl rfl (by decide) dX11_fixed_50 ?_
      refine j_cVL2 (ci := 10) hX (gNC hG) lk_X11_307 (ok_X10_count roU (by decide) (by decide) (by rw [l29]; omega)) (by decide) rfl (Nat.le_of_ble_eq_true rfl) (Nat.le_of_ble_eq_true rfl) (Nat.le_of_ble_eq_true rfl) rfl dX11_fixed_53 (fun x_53 V_53 h_53 => ?_)
      obtain ⟨r_53, f_53⟩ := h_53
      dsimp only [Int.reduceAdd] at r_53
      exact j_retL hR dX11_fixed_56 ⟨⟨by omega, by rw [r_53, e19, e19, e19, e19, p3_30, p4_30, p5_30, p6_30, l29, show V_53 30 = U 30 from funext fun b => f_53 30 b (by decide), show V_53 20 = U 20 from funext fun b => f_53 20 b (by decide)], fun k k0 k1 => by rw [f_53 30 k (by decide)]; exact z30 k k0 k1, fun e e0 e1 => by rw [f_53 20 e (by decide), e20]; exact t_30 e e0 e1, by rw [f_53 19 7 (by decide), e19]; exact v_30⟩, fr_t (fr_w f_30 (by decide)) (fr_t (fr_w fU (by decide)) (fr_w f_53 (by decide)))⟩
    · skip
      exact j_throwW (text := "no such size") hX hT th_137 (by decide +kernel) dX11_fixed_11 dX11_fixed_14 dX11_fixed_15 dX11_fixed_18 dX11_fixed_21 (by decide) (Nat.le_of_ble_eq_true rfl) rfl ⟨rfl, by omega, rfl⟩
