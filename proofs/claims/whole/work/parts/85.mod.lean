/-- which words stand over a cell -/
def mP (V : VV) (d : Int) : Nat → Int → Bool := fun k e => V 58 e == (if d = 0 then V 59 (k : Int) else if d = 1 then (if V 55 2 = 2 then e / V 55 1 else e / V 55 1 % V 55 1) else 0)
def MCW (V : VV) (d L : Int) : Int := sm (fun s => wkF (mP V d) (V 55 1) (V 55 4) (V 55 3) s L.toNat s) (V 55 4).toNat
theorem mP_e {V W : VV} {d : Int} (h58 : W 58 = V 58) (h59 : W 59 = V 59) (h1 : W 55 1 = V 55 1) (h2 : W 55 2 = V 55 2) : mP W d = mP V d := by unfold mP; rw [h58, h59, h1, h2]
theorem mP_c {V W : VV} {d : Int} (h : fr [79, 80] V W) : mP W d = mP V d := mP_e (funext fun b => h 58 b (by decide)) (funext fun b => h 59 b (by decide)) (h 55 1 (by decide)) (h 55 2 (by decide))
theorem MCW_u {V U : VV} {d L : Int} (uF : ∀ b, b ≠ 0 → U 55 b = V 55 b) (uC : ∀ a b, a ≠ 55 → U a b = V a b) : MCW U d L = MCW V d L := by
  unfold MCW
  rw [mP_e (funext fun b => uC 58 b (by decide)) (funext fun b => uC 59 b (by decide)) (uF 1 (by decide)) (uF 2 (by decide)), uF 1 (by decide), uF 3 (by decide), uF 4 (by decide)]
theorem mP_i {V Z : VV} {d e k : Int} (hk : 0 ≤ k) (h : fr [79, 80] V Z) : (Z 58 e = (if d = 0 then Z 59 k else if d = 1 then (if Z 55 2 = 2 then e / Z 55 1 else e / Z 55 1 % Z 55 1) else 0)) ↔ mP V d k.toNat e = true := by
  unfold mP
  rw [beq_iff_eq, show ((k.toNat : Nat) : Int) = k by omega, h 58 e (by decide), h 59 k (by decide), h 55 1 (by decide), h 55 2 (by decide)]
theorem wa_no {Z : VV} {P : Int → Bool} {g N e : Int} {c : Int → Int} (h : ∀ v, 0 ≤ v → v < N → Z 80 v = wAcc P g N c e.toNat v) (he : 0 ≤ e) (hn : ¬ P e = true) : ∀ v, 0 ≤ v → v < N → Z 80 v = wAcc P g N c (e + 1).toNat v := fun v a b => by
  rw [wA_S he, h v a b, if_neg (by simp [hn])]; omega
theorem wa_yes {Z : VV} {P : Int → Bool} {g N e z : Int} {c : Int → Int} (h : ∀ v, 0 ≤ v → v < N → Z 80 v = wAcc P g N c e.toNat v) (he : 0 ≤ e) (hn : P e = true) (hm : 0 ≤ e % N ∧ e % N < N) (hz : z = c (e / g)) : ∀ v, 0 ≤ v → v < N → (up Z 80 (e % N) (Z 80 (e % N) + z)) 80 v = wAcc P g N c (e + 1).toNat v := fun v a b => by
  rw [wA_S he]
  by_cases q : v = e % N
  · rw [if_pos (by simp [hn, q]), q, up_s, h _ hm.1 hm.2, hz]
  · rw [if_neg (by simp [hn]; exact fun r => q r.symm), up_n _ (fun r => q r.2), h v a b]; omega
theorem wa_o {g N n e k : Int} {P : Int → Bool} {c : Int → Int} {F : Int → Int} (hg : 2 ≤ g ∧ g ≤ 6) (hk : k ≤ 15) (hk0 : 0 ≤ k) (hnn : n = N * g) (hwb : (∀ v, 0 ≤ v → v < N → 0 ≤ F v) ∧ sm F N.toNat ≤ g ^ k.toNat) (hW : ∀ v, 0 ≤ v → v < N → c v = F v) (he : 0 ≤ e) (hen : e < n) (hN : 0 ≤ N) : (0 ≤ wAcc P g N c e.toNat (e % N) ∧ wAcc P g N c e.toNat (e % N) ≤ 100000000000000) ∧ 0 ≤ c (e / g) ∧ c (e / g) ≤ 100000000000000 := by
  have hc : ∀ u, 0 ≤ u → u < N → 0 ≤ c u := fun u a b => by rw [hW u a b]; exact hwb.1 u a b
  have hg9 := g6_16 hg (k := (k + 1).toNat) (by omega)
  rw [pwS _ hk0, Int.mul_comm] at hg9
  have hs : sm c N.toNat = sm F N.toNat := sm_c _ (fun i a b => hW i a (by omega))
  have hsb : g * sm c N.toNat ≤ g * g ^ k.toNat := by rw [hs]; exact Int.mul_le_mul_of_nonneg_left hwb.2 (by omega)
  have ha9 := wA_b (P := P) (N := N) (M := N) (g := g) (c := c) (by omega) hc e.toNat (by omega) (e % N)
  have hdv : ∀ i, 0 ≤ i → i < n → 0 ≤ i / g ∧ i / g < N := fun i a b => ⟨Int.ediv_nonneg a (by omega), Int.ediv_lt_of_lt_mul (by omega) (by omega)⟩
  have hb8 := sm_mono (f := fun e => c (e / g)) (m := e.toNat) n.toNat (by omega) (fun i h0 h1 => hc _ (hdv i h0 (by omega)).1 (hdv i h0 (by omega)).2)
  rw [sm_div (by omega) hN hnn] at hb8
  have hd := hdv e he hen
  have hc8 := sm_ge (f := c) (n := N.toNat) (fun i h0 h1 => hc i h0 (by omega)) hd.1 (by omega)
  have hc7 := sm_nn (f := c) N.toNat (fun i h0 h1 => hc i h0 (by omega))
  have hc6 : sm c N.toNat ≤ g * sm c N.toNat := by have := Int.mul_le_mul_of_nonneg_right (a := 1) (b := g) (c := sm c N.toNat) (by omega) hc7; omega
  exact ⟨⟨ha9.1, by omega⟩, hc _ hd.1 hd.2, by omega⟩
set_option maxHeartbeats 4000000 in
theorem ok_X12_walksFrom {V : VV} {s L d : Int} (hmo : MO V) (hs9 : 0 ≤ s ∧ s < V 55 4) (hL : 0 ≤ L ∧ L ≤ 16) : Ok NA yX12_walksFrom cX12_walksFrom 6 (some .long) 1 24 [vA 55, vI s, vI L, vI d] V (pL (fun x9 V' => x9 = wkF (mP V d) (V 55 1) (V 55 4) (V 55 3) s L.toNat s ∧ fr [79, 80] V V')) := by
  refine Ok.intro (by decide +kernel) (Nat.le_of_ble_eq_true rfl) (fun X G hX hG hR hoa hoV => ?_)
  show J X G 0 [vA 55, vI s, vI L, vI d, vU, vU] [] V
  have hb9 := hmo.b
  have hnn := hmo.2.2
  refine j_iconst hX dX12_walksFrom_0 ⟨by decide, by decide⟩ ?_
  refine j_is4 hX dX12_walksFrom_1 rfl ?_
  have lp_3 : ∀ (f9 : Nat) (v : Int) (Y : VV), (0 ≤ v ∧ v ≤ V 55 4) → (fr [79, 80] V Y) → (∀ j, 0 ≤ j → j < v → Y 79 j = if j = s then 1 else 0) → ((V 55 4 - v).toNat) < f9 → J X G 3 [vA 55, vI s, vI L, vI d, vI v, vU] [] Y := by
    intro f9
    induction f9 with
    | zero => intro v Y _ _ _ hm; exact absurd hm (Nat.not_lt_zero _)
    | succ f9 ih_3 =>
      intro v Y hv hy hD hm
      refine j_il4 hX dX12_walksFrom_3 ?_
      have f1_Y : Y 55 1 = V 55 1 := hy 55 1 (by decide)
      have f2_Y : Y 55 2 = V 55 2 := hy 55 2 (by decide)
      have f3_Y : Y 55 3 = V 55 3 := hy 55 3 (by decide)
      have f4_Y : Y 55 4 = V 55 4 := hy 55 4 (by decide)
      refine j_al0 hX dX12_walksFrom_5 rfl ?_
      refine j_getI hX hG fl_X12_145 (Or.inl rfl) (by decide) dX12_walksFrom_6 ?_
      refine j_fx (x := V 55 4) (by first | assumption | rfl) ?_
      refine j_icmp_ge (tgt := 36) hX dX12_walksFrom_9 (by decide) (fun h_9 => ?_) (fun h_9 => ?_)
      · skip
        refine j_iconst hX dX12_walksFrom_36 ⟨by decide, by decide⟩ ?_
        refine j_is4 hX dX12_walksFrom_37 rfl ?_
        have lp_39 : ∀ (f9 : Nat) (k : Int) (W : VV), (0 ≤ k ∧ k ≤ L) → (fr [79, 80] V W) → (∀ v, 0 ≤ v → v < V 55 4 → W 79 v = wkF (mP V d) (V 55 1) (V 55 4) (V 55 3) s k.toNat v) → ((L - k).toNat) < f9 → J X G 39 [vA 55, vI s, vI L, vI d, vI k, vU] [] W := by
          intro f9
          induction f9 with
          | zero => intro k W _ _ _ hm; exact absurd hm (Nat.not_lt_zero _)
          | succ f9 ih_39 =>
            intro k W hk hw hW hm
            refine j_il4 hX dX12_walksFrom_39 ?_
            refine j_il2 hX dX12_walksFrom_41 ?_
            refine j_icmp_ge (tgt := 166) hX dX12_walksFrom_42 (by decide) (fun h_42 => ?_) (fun h_42 => ?_)
            · skip
              refine j_al0 hX dX12_walksFrom_166 rfl ?_
              refine j_getR (q := 79) hX hG fl_X12_86 rfl rfl (by decide) dX12_walksFrom_167 ?_
              refine j_il1 hX dX12_walksFrom_170 ?_
              refine j_lald (n := 36) hX hG (by decide) (by omega) dX12_walksFrom_171 ?_
              exact j_retL hR dX12_walksFrom_172 ⟨by rw [hW s hs9.1 hs9.2, show k = L by omega], hw⟩
            · skip
              refine j_iconst hX dX12_walksFrom_45 ⟨by decide, by decide⟩ ?_
              refine j_is5 hX dX12_walksFrom_46 rfl ?_
              have lp_48 : ∀ (f9 : Nat) (v : Int) (X1 : VV), (0 ≤ v ∧ v ≤ V 55 4) → (fr [80] W X1) → (∀ j, 0 ≤ j → j < v → X1 80 j = 0) → ((V 55 4 - v).toNat) < f9 → J X G 48 [vA 55, vI s, vI L, vI d, vI k, vI v] [] X1 := by
                intro f9
                induction f9 with
                | zero => intro v X1 _ _ _ hm; exact absurd hm (Nat.not_lt_zero _)
                | succ f9 ih_48 =>
                  intro v X1 hv2 hx1 hD2 hm
                  refine j_il5 hX dX12_walksFrom_48 ?_
                  have f1_X1 : X1 55 1 = V 55 1 := (fr_t hw (fr_w hx1 (by decide))) 55 1 (by decide)
                  have f2_X1 : X1 55 2 = V 55 2 := (fr_t hw (fr_w hx1 (by decide))) 55 2 (by decide)
                  have f3_X1 : X1 55 3 = V 55 3 := (fr_t hw (fr_w hx1 (by decide))) 55 3 (by decide)
                  have f4_X1 : X1 55 4 = V 55 4 := (fr_t hw (fr_w hx1 (by decide))) 55 4 (by decide)
                  refine j_al0 hX dX12_walksFrom_50 rfl ?_
                  refine j_getI hX hG fl_X12_145 (Or.inl rfl) (by decide) dX12_walksFrom_51 ?_
                  refine j_fx (x := V 55 4) (by first | assumption | rfl) ?_
                  refine j_icmp_ge (tgt := 71) hX dX12_walksFrom_54 (by decide) (fun h_54 => ?_) (fun h_54 => ?_)
                  · skip
                    refine j_iconst hX dX12_walksFrom_71 ⟨by decide, by decide⟩ ?_
                    refine j_is5 hX dX12_walksFrom_72 rfl ?_
                    have lp_74 : ∀ (f9 : Nat) (e : Int) (Z : VV), (0 ≤ e ∧ e ≤ V 55 3) → (fr [80] W Z) → (∀ v, 0 ≤ v → v < V 55 4 → Z 80 v = wAcc ((mP V d) k.toNat) (V 55 1) (V 55 4) (W 79) (e).toNat v) → ((V 55 3 - e).toNat) < f9 → J X G 74 [vA 55, vI s, vI L, vI d, vI k, vI e] [] Z := by
                      intro f9
                      induction f9 with
                      | zero => intro e Z _ _ _ hm; exact absurd hm (Nat.not_lt_zero _)
                      | succ f9 ih_74 =>
                        intro e Z he hzz hA hm
                        refine j_il5 hX dX12_walksFrom_74 ?_
                        have f1_Z : Z 55 1 = V 55 1 := (fr_t hw (fr_w hzz (by decide))) 55 1 (by decide)
                        have f2_Z : Z 55 2 = V 55 2 := (fr_t hw (fr_w hzz (by decide))) 55 2 (by decide)
                        have f3_Z : Z 55 3 = V 55 3 := (fr_t hw (fr_w hzz (by decide))) 55 3 (by decide)
                        have f4_Z : Z 55 4 = V 55 4 := (fr_t hw (fr_w hzz (by decide))) 55 4 (by decide)
                        refine j_al0 hX dX12_walksFrom_76 rfl ?_
                        refine j_getI hX hG fl_X12_148 (Or.inl rfl) (by decide) dX12_walksFrom_77 ?_
                        refine j_fx (x := V 55 3) (by first | assumption | rfl) ?_
                        refine j_icmp_ge (tgt := 128) hX dX12_walksFrom_80 (by decide) (fun h_80 => ?_) (fun h_80 => ?_)
                        · skip
                          refine j_iconst hX dX12_walksFrom_128 ⟨by decide, by decide⟩ ?_
                          refine j_is5 hX dX12_walksFrom_129 rfl ?_
                          have lp_131 : ∀ (f9 : Nat) (v : Int) (Q : VV), (0 ≤ v ∧ v ≤ V 55 4) → (fr [79] Z Q) → (∀ j, 0 ≤ j → j < v → Q 79 j = Z 80 j) → ((V 55 4 - v).toNat) < f9 → J X G 131 [vA 55, vI s, vI L, vI d, vI k, vI v] [] Q := by
                            intro f9
                            induction f9 with
                            | zero => intro v Q _ _ _ hm; exact absurd hm (Nat.not_lt_zero _)
                            | succ f9 ih_131 =>
                              intro v Q hv3 hq hC hm
                              refine j_il5 hX dX12_walksFrom_131 ?_
                              have f1_Q : Q 55 1 = V 55 1 := (fr_t hw (fr_t (fr_w hzz (by decide)) (fr_w hq (by decide)))) 55 1 (by decide)
                              have f2_Q : Q 55 2 = V 55 2 := (fr_t hw (fr_t (fr_w hzz (by decide)) (fr_w hq (by decide)))) 55 2 (by decide)
                              have f3_Q : Q 55 3 = V 55 3 := (fr_t hw (fr_t (fr_w hzz (by decide)) (fr_w hq (by decide)))) 55 3 (by decide)
                              have f4_Q : Q 55 4 = V 55 4 := (fr_t hw (fr_t (fr_w hzz (by decide)) (fr_w hq (by decide)))) 55 4 (by decide)
                              refine j_al0 hX dX12_walksFrom_133 rfl ?_
                              refine j_getI hX hG fl_X12_145 (Or.inl rfl) (by decide) dX12_walksFrom_134 ?_
                              refine j_fx (x := V 55 4) (by first | assumption | rfl) ?_
                              refine j_icmp_ge (tgt := 160) hX dX12_walksFrom_137 (by decide) (fun h_137 => ?_) (fun h_137 => ?_)
                              · skip
                                refine j_inc4 hX dX12_walksFrom_160 rfl (by omega) ?_
                                refine j_goto (tgt := 39) hX dX12_walksFrom_163 (by decide) ?_
                                refine j_fg5 ?_
                                exact ih_39 _ _ (by omega) (fr_t hw (fr_t (fr_w hzz (by decide)) (fr_w hq (by decide)))) (fun v a b => by rw [hC v a (by omega), hA v a b, wk_S hk.1, show e = V 55 3 by omega]; exact wA_c (M := V 55 4) (by omega) hW _ (by omega) v) (by omega)
                              · skip
                                refine j_al0 hX dX12_walksFrom_140 rfl ?_
                                refine j_getR (q := 79) hX hG fl_X12_86 rfl rfl (by decide) dX12_walksFrom_141 ?_
                                refine j_il5 hX dX12_walksFrom_144 ?_
                                refine j_al0 hX dX12_walksFrom_146 rfl ?_
                                refine j_getR (q := 80) hX hG fl_X12_89 rfl rfl (by decide) dX12_walksFrom_147 ?_
                                refine j_il5 hX dX12_walksFrom_150 ?_
                                refine j_lald (n := 36) hX hG (by decide) (by omega) dX12_walksFrom_152 ?_
                                refine j_last (n := 36) hX hG (by decide) (by omega) dX12_walksFrom_153 ?_
                                refine j_inc5 hX dX12_walksFrom_154 rfl (by omega) ?_
                                refine j_goto (tgt := 131) hX dX12_walksFrom_157 (by decide) ?_
                                exact ih_131 _ _ (by omega) (fr_u hq (by decide)) (lt_stepI (fun j a b => by rw [up_n _ (by omega)]; exact hC j a b) (by rw [up_s]; exact hq 80 _ (by decide))) (by omega)
                          exact lp_131 _ 0 _ ⟨by decide, by omega⟩ fr_0 (fun j a b => by omega) (Nat.lt_succ_self _)
                        · skip
                          have hen : e < V 55 3 := by omega
                          have moZ : MO Z := by unfold MO; rw [f1_Z, f2_Z, f3_Z, f4_Z]; exact hmo
                          have wZ : fr [79, 80] V Z := fr_t hw (fr_w hzz (by decide))
                          have hmp := mP_i (d := d) (e := e) hk.1 wZ
                          have hm9 := md_b e (n := V 55 4) (by omega)
                          have hdv : 0 ≤ e / V 55 1 ∧ e / V 55 1 < V 55 4 := ⟨Int.ediv_nonneg he.1 (by omega), Int.ediv_lt_of_lt_mul (by omega) (by omega)⟩
                          have hwb := wk_b (P := mP V d) (s := s) (show 1 ≤ V 55 1 by omega) (show 0 ≤ V 55 4 by omega) hnn k.toNat
                          have hob := wa_o hb9.1 (show k ≤ 15 by omega) hk.1 hnn hwb hW he.1 hen (P := mP V d k.toNat) (show 0 ≤ V 55 4 by omega)
                          have hz80 := hA _ hm9.1 hm9.2
                          refine j_al0 hX dX12_walksFrom_83 rfl ?_
                          refine j_il5 hX dX12_walksFrom_84 ?_
                          refine j_il4 hX dX12_walksFrom_86 ?_
                          refine j_il3 hX dX12_walksFrom_88 ?_
                          refine j_pVI3 (ci := 12) hX hG lk_X12_406 (ok_X12_isWay moZ (by rw [f3_Z]; omega) (by omega)) (by decide) rfl (Nat.le_of_ble_eq_true rfl) (Nat.le_of_ble_eq_true rfl) (Nat.le_of_ble_eq_true rfl) rfl dX12_walksFrom_89 ?_
                          refine j_ifz_eq (tgt := 122) hX dX12_walksFrom_92 (by decide) (fun h_92 => ?_) (fun h_92 => ?_)
                          · skip
                            refine j_inc5 hX dX12_walksFrom_122 rfl (by omega) ?_
                            refine j_goto (tgt := 74) hX dX12_walksFrom_125 (by decide) ?_
                            exact ih_74 _ _ (by omega) (by first | exact fr_u hzz (by decide) | exact hzz) (by first | exact wa_no hA he.1 (fun q => h_92 (hmp.mpr q)) | exact wa_yes hA he.1 (hmp.mp h_92) (md_b e (by omega)) rfl) (by omega)
                          · skip
                            refine j_al0 hX dX12_walksFrom_95 rfl ?_
                            refine j_getR (q := 80) hX hG fl_X12_89 rfl rfl (by decide) dX12_walksFrom_96 ?_
                            refine j_il5 hX dX12_walksFrom_99 ?_
                            refine j_al0 hX dX12_walksFrom_101 rfl ?_
                            refine j_getI hX hG fl_X12_145 (Or.inl rfl) (by decide) dX12_walksFrom_102 ?_
                            refine j_fx (x := V 55 4) (by first | assumption | rfl) ?_
                            refine j_irem hX dX12_walksFrom_105 (by omega) he.1 ?_
                            refine j_dup2 hX dX12_walksFrom_106 rfl rfl ?_
                            refine j_lald (n := 36) hX hG (by decide) (by omega) dX12_walksFrom_107 ?_
                            refine j_al0 hX dX12_walksFrom_108 rfl ?_
                            refine j_getR (q := 79) hX hG fl_X12_86 rfl rfl (by decide) dX12_walksFrom_109 ?_
                            refine j_il5 hX dX12_walksFrom_112 ?_
                            refine j_al0 hX dX12_walksFrom_114 rfl ?_
                            refine j_getI hX hG fl_X12_136 (Or.inl rfl) (by decide) dX12_walksFrom_115 ?_
                            refine j_fx (x := V 55 1) (by first | assumption | rfl) ?_
                            refine j_idiv hX dX12_walksFrom_118 (by omega) he.1 ?_
                            refine j_lald (n := 36) hX hG (by decide) (by omega) dX12_walksFrom_119 ?_
                            refine j_eqS (st' := [vL (W 79 (e / V 55 1)), vL (Z 80 (e % V 55 4)), vI (e % V 55 4), vA 80]) (by rw [hzz 79 _ (by decide)]) ?_
                            refine j_ladd hX dX12_walksFrom_120 (by rw [hz80]; omega) ?_
                            refine j_last (n := 36) hX hG (by decide) (by omega) dX12_walksFrom_121 ?_
                            refine j_inc5 hX dX12_walksFrom_122 rfl (by omega) ?_
                            refine j_goto (tgt := 74) hX dX12_walksFrom_125 (by decide) ?_
                            exact ih_74 _ _ (by omega) (by first | exact fr_u hzz (by decide) | exact hzz) (by first | exact wa_no hA he.1 (fun q => h_92 (hmp.mpr q)) | exact wa_yes hA he.1 (hmp.mp h_92) (md_b e (by omega)) rfl) (by omega)
                    exact lp_74 _ 0 _ ⟨by decide, by omega⟩ hx1 (fun v a b => hD2 v a (by omega)) (Nat.lt_succ_self _)
                  · skip
                    refine j_al0 hX dX12_walksFrom_57 rfl ?_
                    refine j_getR (q := 80) hX hG fl_X12_89 rfl rfl (by decide) dX12_walksFrom_58 ?_
                    refine j_il5 hX dX12_walksFrom_61 ?_
                    refine j_lconst (x := 0) hX dX12_walksFrom_63 rfl ⟨by decide, by decide⟩ ?_
                    refine j_last (n := 36) hX hG (by decide) (by omega) dX12_walksFrom_64 ?_
                    refine j_inc5 hX dX12_walksFrom_65 rfl (by omega) ?_
                    refine j_goto (tgt := 48) hX dX12_walksFrom_68 (by decide) ?_
                    exact ih_48 _ _ (by omega) (fr_u hx1 (by decide)) (lt_stepI (fun j a b => by rw [up_n _ (by omega)]; exact hD2 j a b) (up_s ..)) (by omega)
              exact lp_48 _ 0 _ ⟨by decide, by omega⟩ fr_0 (fun j a b => by omega) (Nat.lt_succ_self _)
        exact lp_39 _ 0 _ ⟨by decide, by omega⟩ hy (fun j a b => hD j a (by omega)) (Nat.lt_succ_self _)
      · skip
        have jn_29 : ∀ (z : Int), (z = if v = s then 1 else 0) → J X G 29 [vA 55, vI s, vI L, vI d, vI v, vU] [vL z, vI v, vA 79] Y := by
          intro z hz
          refine j_last (n := 36) hX hG (by decide) (by omega) dX12_walksFrom_29 ?_
          refine j_inc4 hX dX12_walksFrom_30 rfl (by omega) ?_
          refine j_goto (tgt := 3) hX dX12_walksFrom_33 (by decide) ?_
          exact ih_3 _ _ (by omega) (fr_u hy (by decide)) (lt_stepI (fun j a b => by rw [up_n _ (by omega)]; exact hD j a b) (by rw [up_s]; exact hz)) (by omega)
        refine j_al0 hX dX12_walksFrom_12 rfl ?_
        refine j_getR (q := 79) hX hG fl_X12_86 rfl rfl (by decide) dX12_walksFrom_13 ?_
        refine j_il4 hX dX12_walksFrom_16 ?_
        refine j_il4 hX dX12_walksFrom_18 ?_
        refine j_il1 hX dX12_walksFrom_20 ?_
        refine j_icmp_ne (tgt := 28) hX dX12_walksFrom_21 (by decide) (fun h_21 => ?_) (fun h_21 => ?_)
        · skip
          refine j_lconst (x := 0) hX dX12_walksFrom_28 rfl ⟨by decide, by decide⟩ ?_
          exact jn_29 _ (by first | exact (if_pos (by omega)).symm | exact (if_neg (by omega)).symm)
        · skip
          refine j_lconst (x := 1) hX dX12_walksFrom_24 rfl ⟨by decide, by decide⟩ ?_
          refine j_goto (tgt := 29) hX dX12_walksFrom_25 (by decide) ?_
          exact jn_29 _ (by first | exact (if_pos (by omega)).symm | exact (if_neg (by omega)).symm)
  exact lp_3 _ _ _ (by omega) fr_0 (fun j a b => by omega) (Nat.lt_succ_self _)
set_option maxHeartbeats 4000000 in
theorem ok_X12_closedWalks {V : VV} {L d : Int} (hmo : MO V) (hL : 0 ≤ L ∧ L ≤ 16) : Ok NA yX12_closedWalks cX12_closedWalks 6 (some .long) 2 49 [vA 55, vI L, vI d] V (pL (fun x9 V' => x9 = MCW V d L ∧ fr [79, 80] V V')) := by
  refine Ok.intro (by decide +kernel) (Nat.le_of_ble_eq_true rfl) (fun X G hX hG hR hoa hoV => ?_)
  show J X G 0 [vA 55, vI L, vI d, vU, vU, vU] [] V
  have hb9 := hmo.b
  have hnn := hmo.2.2
  refine j_lconst (x := 0) hX dX12_closedWalks_0 rfl ⟨by decide, by decide⟩ ?_
  refine j_ls3 hX dX12_closedWalks_1 rfl ?_
  refine j_iconst hX dX12_closedWalks_2 ⟨by decide, by decide⟩ ?_
  refine j_is5 hX dX12_closedWalks_3 rfl ?_
  have lp_5 : ∀ (f9 : Nat) (s : Int) (W : VV), (0 ≤ s ∧ s ≤ V 55 4) → (fr [79, 80] V W) → ((V 55 4 - s).toNat) < f9 → J X G 5 [vA 55, vI L, vI d, vL (sm (fun s => wkF (mP V d) (V 55 1) (V 55 4) (V 55 3) s L.toNat s) s.toNat), vU, vI s] [] W := by
    intro f9
    induction f9 with
    | zero => intro s W _ _ hm; exact absurd hm (Nat.not_lt_zero _)
    | succ f9 ih_5 =>
      intro s W hk hw hm
      refine j_il5 hX dX12_closedWalks_5 ?_
      have f1_W : W 55 1 = V 55 1 := hw 55 1 (by decide)
      have f2_W : W 55 2 = V 55 2 := hw 55 2 (by decide)
      have f3_W : W 55 3 = V 55 3 := hw 55 3 (by decide)
      have f4_W : W 55 4 = V 55 4 := hw 55 4 (by decide)
      have moW : MO W := by unfold MO; rw [f1_W, f2_W, f3_W, f4_W]; exact hmo
      refine j_al0 hX dX12_closedWalks_7 rfl ?_
      refine j_getI hX hG fl_X12_145 (Or.inl rfl) (by decide) dX12_closedWalks_8 ?_
      refine j_fx (x := V 55 4) (by first | assumption | rfl) ?_
      refine j_icmp_ge (tgt := 31) hX dX12_closedWalks_11 (by decide) (fun h_11 => ?_) (fun h_11 => ?_)
      · skip
        refine j_ll3 hX dX12_closedWalks_31 ?_
        exact j_retL hR dX12_closedWalks_32 ⟨by unfold MCW; rw [show s = V 55 4 by omega], hw⟩
      · skip
        have hwb : ∀ i, 0 ≤ i → i < V 55 4 → 0 ≤ (fun s => wkF (mP V d) (V 55 1) (V 55 4) (V 55 3) s L.toNat s) i ∧ (fun s => wkF (mP V d) (V 55 1) (V 55 4) (V 55 3) s L.toNat s) i ≤ 2821109907456 := fun i h0 h1 => by
          have h2 := wk_b (P := mP V d) (s := i) (show 1 ≤ V 55 1 by omega) (show 0 ≤ V 55 4 by omega) hnn L.toNat
          have h3 := sm_ge (f := wkF (mP V d) (V 55 1) (V 55 4) (V 55 3) i L.toNat) (n := (V 55 4).toNat) (fun j j0 j1 => h2.1 j j0 (by omega)) h0 (by omega)
          have h4 := g6_16 hb9.1 (k := L.toNat) (by omega)
          exact ⟨h2.1 i h0 h1, Int.le_trans h3 (Int.le_trans h2.2 h4.2)⟩
        have hsb := sm_b (f := (fun s => wkF (mP V d) (V 55 1) (V 55 4) (V 55 3) s L.toNat s)) (b := 2821109907456) s.toNat (fun i h0 h1 => (hwb i h0 (by omega)).2)
        have hsn := sm_nn (f := (fun s => wkF (mP V d) (V 55 1) (V 55 4) (V 55 3) s L.toNat s)) s.toNat (fun i h0 h1 => (hwb i h0 (by omega)).1)
        have hsi := hwb s hk.1
        refine j_ll3 hX dX12_closedWalks_14 ?_
        refine j_al0 hX dX12_closedWalks_15 rfl ?_
        refine j_il5 hX dX12_closedWalks_16 ?_
        refine j_il1 hX dX12_closedWalks_18 ?_
        refine j_il2 hX dX12_closedWalks_19 ?_
        refine j_cVL3 (ci := 12) hX hG lk_X12_409 (ok_X12_walksFrom moW (by rw [f4_W]; omega) (by first | assumption | omega | decide)) (by decide) rfl (Nat.le_of_ble_eq_true rfl) (Nat.le_of_ble_eq_true rfl) (Nat.le_of_ble_eq_true rfl) rfl dX12_closedWalks_20 (fun x_20 V_20 h_20 => ?_)
        obtain ⟨x_20e, f_20⟩ := h_20
        rw [mP_c hw, f1_W, f3_W, f4_W] at x_20e
        subst x_20e
        refine j_ladd hX dX12_closedWalks_23 (by have := hsi (by omega); simp only [] at this hsb hsn ⊢; omega) ?_
        refine j_ls3 hX dX12_closedWalks_24 rfl ?_
        refine j_inc5 hX dX12_closedWalks_25 rfl (by omega) ?_
        refine j_goto (tgt := 5) hX dX12_closedWalks_28 (by decide) ?_
        refine j_eqL (ls' := [vA 55, vI L, vI d, vL (sm (fun s => wkF (mP V d) (V 55 1) (V 55 4) (V 55 3) s L.toNat s) (s + 1).toNat), vU, vI (s + 1)]) (by rw [sm_S hk.1]) ?_
        exact ih_5 _ _ (by omega) (fr_t hw f_20) (by omega)
  refine j_eqL (ls' := [vA 55, vI L, vI d, vL (sm (fun s => wkF (mP V d) (V 55 1) (V 55 4) (V 55 3) s L.toNat s) (0 : Int).toNat), vU, vI 0]) rfl ?_
  exact lp_5 _ _ _ ⟨by decide, by omega⟩ fr_0 (Nat.lt_succ_self _)
set_option maxHeartbeats 4000000 in
theorem ok_X12_preimages {V : VV} (hmo : MO V) (hnm : 1 ≤ V 55 5 ∧ V 55 5 ≤ 16) : Ok NA yX12_preimages cX12_preimages 1 (some .long) 3 74 [vA 55] V (pL (fun x9 V' => x9 = MCW V 0 (V 55 5) ∧ fr [79, 80] (up V 55 0 0) V')) := by
  refine Ok.intro (by decide +kernel) (Nat.le_of_ble_eq_true rfl) (fun X G hX hG hR hoa hoV => ?_)
  show J X G 0 [vA 55] [] V
  refine j_al0 hX dX12_preimages_0 rfl ?_
  refine j_iconst hX dX12_preimages_1 ⟨by decide, by decide⟩ ?_
  refine j_putI hX hG fp_X12_126 rfl (by decide) dX12_preimages_2 ?_
  obtain ⟨U, hU⟩ : ∃ U, U = up V 55 0 0 := ⟨_, rfl⟩
  rw [← hU]
  have u0 : U 55 0 = 0 := by rw [hU]; exact up_s ..
  have uF : ∀ b, b ≠ 0 → U 55 b = V 55 b := fun b hb => by rw [hU]; exact up_n _ (fun q => hb q.2)
  have uC : ∀ a b, a ≠ 55 → U a b = V a b := fun a b ha => by rw [hU]; exact up_n _ (fun q => ha q.1)
  have moU : MO U := hmo.t uF
  have e5 := uF 5 (by decide)
  refine j_al0 hX dX12_preimages_5 rfl ?_
  refine j_al0 hX dX12_preimages_6 rfl ?_
  refine j_getI hX hG fl_X12_142 (Or.inl rfl) (by decide) dX12_preimages_7 ?_
  refine j_iconst hX dX12_preimages_10 ⟨by decide, by decide⟩ ?_
  refine j_cVL2 (ci := 12) hX hG lk_X12_413 (ok_X12_closedWalks moU (by omega)) (by decide) rfl (Nat.le_of_ble_eq_true rfl) (Nat.le_of_ble_eq_true rfl) (Nat.le_of_ble_eq_true rfl) rfl dX12_preimages_11 (fun x_11 V_11 h_11 => ?_)
  obtain ⟨x_11e, f_11⟩ := h_11
  exact j_retL hR dX12_preimages_14 ⟨by rw [x_11e, e5, MCW_u uF uC], by rw [hU] at f_11; exact f_11⟩
set_option maxHeartbeats 4000000 in
theorem ok_X12_fixed {V : VV} {a : Int} (hmo : MO V) : Ok NA yX12_fixed cX12_fixed 2 (some .long) 3 74 [vA 55, vI a] V (pL (fun x9 V' => ((1 ≤ a ∧ a ≤ 16) ∧ x9 = MCW V 1 a ∧ fr [79, 80] (up V 55 0 0) V') ∨ (¬ (1 ≤ a ∧ a ≤ 16) ∧ x9 = 0 ∧ V' = up (up V 55 0 0) 55 0 1))) := by
  refine Ok.intro (by decide +kernel) (Nat.le_of_ble_eq_true rfl) (fun X G hX hG hR hoa hoV => ?_)
  show J X G 0 [vA 55, vI a] [] V
  refine j_al0 hX dX12_fixed_0 rfl ?_
  refine j_iconst hX dX12_fixed_1 ⟨by decide, by decide⟩ ?_
  refine j_putI hX hG fp_X12_126 rfl (by decide) dX12_fixed_2 ?_
  obtain ⟨U, hU⟩ : ∃ U, U = up V 55 0 0 := ⟨_, rfl⟩
  rw [← hU]
  have u0 : U 55 0 = 0 := by rw [hU]; exact up_s ..
  have uF : ∀ b, b ≠ 0 → U 55 b = V 55 b := fun b hb => by rw [hU]; exact up_n _ (fun q => hb q.2)
  have uC : ∀ a b, a ≠ 55 → U a b = V a b := fun a b ha => by rw [hU]; exact up_n _ (fun q => ha q.1)
  have moU : MO U := hmo.t uF
  have e5 := uF 5 (by decide)
  refine j_al0 hX dX12_fixed_5 rfl ?_
  refine j_il1 hX dX12_fixed_6 ?_
  refine j_iconst hX dX12_fixed_7 ⟨by decide, by decide⟩ ?_
  refine j_bipush hX dX12_fixed_8 (by decide) ⟨by decide, by decide⟩ ?_
  refine j_pSI3 hX hG lk_X12_172 (ok_X12_isIn ) (Nat.le_of_ble_eq_true rfl) (Nat.le_of_ble_eq_true rfl) (Nat.le_of_ble_eq_true rfl) rfl dX12_fixed_10 ?_
  refine j_iconst hX dX12_fixed_13 ⟨by decide, by decide⟩ ?_
  refine j_cVI2 (ci := 12) hX hG lk_X12_168 (ok_X12_may u0 (by decide)) (by decide) rfl (Nat.le_of_ble_eq_true rfl) (Nat.le_of_ble_eq_true rfl) (Nat.le_of_ble_eq_true rfl) rfl dX12_fixed_14 (fun x_14 V_14 h_14 => ?_)
  skip
  refine j_if_eq (tgt := 29) hX dX12_fixed_17 (by decide) (fun h_17 => ?_) (fun h_17 => ?_)
  · skip
    refine j_lconst (x := 0) hX dX12_fixed_29 rfl ⟨by decide, by decide⟩ ?_
    exact j_retL hR dX12_fixed_30 (by
      first
      | exact Or.inl ⟨c9, by rw [x_23e, MCW_u uF uC], by rw [hU] at f_23; exact f_23⟩
      | exact (by
          obtain ⟨c_14, -, w_14⟩ := h_14.elim (fun q => absurd q.2.1 (by omega)) id
          rw [w_14, hU]
          exact Or.inr ⟨fun q => by rw [if_pos q] at c_14; exact absurd c_14 (by decide), rfl, rfl⟩))
  · skip
    obtain ⟨c_14, -, w_14⟩ := h_14.elim id (fun q => absurd q.2.1 (by omega))
    have w2_14 := w_14.symm
    subst w2_14
    have c9 : 1 ≤ a ∧ a ≤ 16 := Classical.byContradiction fun q => c_14 (by rw [if_neg q])
    refine j_al0 hX dX12_fixed_20 rfl ?_
    refine j_il1 hX dX12_fixed_21 ?_
    refine j_iconst hX dX12_fixed_22 ⟨by decide, by decide⟩ ?_
    refine j_cVL2 (ci := 12) hX hG lk_X12_413 (ok_X12_closedWalks moU (by omega)) (by decide) rfl (Nat.le_of_ble_eq_true rfl) (Nat.le_of_ble_eq_true rfl) (Nat.le_of_ble_eq_true rfl) rfl dX12_fixed_23 (fun x_23 V_23 h_23 => ?_)
    obtain ⟨x_23e, f_23⟩ := h_23
    refine j_goto (tgt := 30) hX dX12_fixed_26 (by decide) ?_
    exact j_retL hR dX12_fixed_30 (by
      first
      | exact Or.inl ⟨c9, by rw [x_23e, MCW_u uF uC], by rw [hU] at f_23; exact f_23⟩
      | exact (by
          obtain ⟨c_14, -, w_14⟩ := h_14.elim (fun q => absurd q.2.1 (by omega)) id
          rw [w_14, hU]
          exact Or.inr ⟨fun q => by rw [if_pos q] at c_14; exact absurd c_14 (by decide), rfl, rfl⟩))
set_option maxHeartbeats 4000000 in
theorem ok_X12_kernel {V : VV} {a : Int} (hmo : MO V) : Ok NA yX12_kernel cX12_kernel 2 (some .long) 3 74 [vA 55, vI a] V (pL (fun x9 V' => ((1 ≤ a ∧ a ≤ 16) ∧ x9 = MCW V 2 a ∧ fr [79, 80] (up V 55 0 0) V') ∨ (¬ (1 ≤ a ∧ a ≤ 16) ∧ x9 = 0 ∧ V' = up (up V 55 0 0) 55 0 1))) := by
  refine Ok.intro (by decide +kernel) (Nat.le_of_ble_eq_true rfl) (fun X G hX hG hR hoa hoV => ?_)
  show J X G 0 [vA 55, vI a] [] V
  refine j_al0 hX dX12_kernel_0 rfl ?_
  refine j_iconst hX dX12_kernel_1 ⟨by decide, by decide⟩ ?_
  refine j_putI hX hG fp_X12_126 rfl (by decide) dX12_kernel_2 ?_
  obtain ⟨U, hU⟩ : ∃ U, U = up V 55 0 0 := ⟨_, rfl⟩
  rw [← hU]
  have u0 : U 55 0 = 0 := by rw [hU]; exact up_s ..
  have uF : ∀ b, b ≠ 0 → U 55 b = V 55 b := fun b hb => by rw [hU]; exact up_n _ (fun q => hb q.2)
  have uC : ∀ a b, a ≠ 55 → U a b = V a b := fun a b ha => by rw [hU]; exact up_n _ (fun q => ha q.1)
  have moU : MO U := hmo.t uF
  have e5 := uF 5 (by decide)
  refine j_al0 hX dX12_kernel_5 rfl ?_
  refine j_il1 hX dX12_kernel_6 ?_
  refine j_iconst hX dX12_kernel_7 ⟨by decide, by decide⟩ ?_
  refine j_bipush hX dX12_kernel_8 (by decide) ⟨by decide, by decide⟩ ?_
  refine j_pSI3 hX hG lk_X12_172 (ok_X12_isIn ) (Nat.le_of_ble_eq_true rfl) (Nat.le_of_ble_eq_true rfl) (Nat.le_of_ble_eq_true rfl) rfl dX12_kernel_10 ?_
  refine j_iconst hX dX12_kernel_13 ⟨by decide, by decide⟩ ?_
  refine j_cVI2 (ci := 12) hX hG lk_X12_168 (ok_X12_may u0 (by decide)) (by decide) rfl (Nat.le_of_ble_eq_true rfl) (Nat.le_of_ble_eq_true rfl) (Nat.le_of_ble_eq_true rfl) rfl dX12_kernel_14 (fun x_14 V_14 h_14 => ?_)
  skip
  refine j_if_eq (tgt := 29) hX dX12_kernel_17 (by decide) (fun h_17 => ?_) (fun h_17 => ?_)
  · skip
    refine j_lconst (x := 0) hX dX12_kernel_29 rfl ⟨by decide, by decide⟩ ?_
    exact j_retL hR dX12_kernel_30 (by
      first
      | exact Or.inl ⟨c9, by rw [x_23e, MCW_u uF uC], by rw [hU] at f_23; exact f_23⟩
      | exact (by
          obtain ⟨c_14, -, w_14⟩ := h_14.elim (fun q => absurd q.2.1 (by omega)) id
          rw [w_14, hU]
          exact Or.inr ⟨fun q => by rw [if_pos q] at c_14; exact absurd c_14 (by decide), rfl, rfl⟩))
  · skip
    obtain ⟨c_14, -, w_14⟩ := h_14.elim id (fun q => absurd q.2.1 (by omega))
    have w2_14 := w_14.symm
    subst w2_14
    have c9 : 1 ≤ a ∧ a ≤ 16 := Classical.byContradiction fun q => c_14 (by rw [if_neg q])
    refine j_al0 hX dX12_kernel_20 rfl ?_
    refine j_il1 hX dX12_kernel_21 ?_
    refine j_iconst hX dX12_kernel_22 ⟨by decide, by decide⟩ ?_
    refine j_cVL2 (ci := 12) hX hG lk_X12_413 (ok_X12_closedWalks moU (by omega)) (by decide) rfl (Nat.le_of_ble_eq_true rfl) (Nat.le_of_ble_eq_true rfl) (Nat.le_of_ble_eq_true rfl) rfl dX12_kernel_23 (fun x_23 V_23 h_23 => ?_)
    obtain ⟨x_23e, f_23⟩ := h_23
    refine j_goto (tgt := 30) hX dX12_kernel_26 (by decide) ?_
    exact j_retL hR dX12_kernel_30 (by
      first
      | exact Or.inl ⟨c9, by rw [x_23e, MCW_u uF uC], by rw [hU] at f_23; exact f_23⟩
      | exact (by
          obtain ⟨c_14, -, w_14⟩ := h_14.elim (fun q => absurd q.2.1 (by omega)) id
          rw [w_14, hU]
          exact Or.inr ⟨fun q => by rw [if_pos q] at c_14; exact absurd c_14 (by decide), rfl, rfl⟩))
