/-! the orbit of a ring -/
def orbF (T : Int → Int) (g w n : Int) (R : Int → Int) : Nat → Int → Int
  | 0 => R
  | t + 1 => stepF T g w n (orbF T g w n R t)
def EQO (T : Int → Int) (g w n : Int) (R : Int → Int) (i j : Nat) : Prop := ∀ k, 0 ≤ k → k < n → orbF T g w n R i k = orbF T g w n R j k
def DET (E : Nat → Nat → Prop) : Prop := (∀ i, E i i) ∧ (∀ i j, E i j → E j i) ∧ (∀ i j k, E i j → E j k → E i k) ∧ ∀ i j, E i j → E (i + 1) (j + 1)
def CYS (E : Nat → Nat → Prop) (s p : Int) : Prop := 0 ≤ s ∧ 1 ≤ p ∧ s + p ≤ 1000 ∧ E s.toNat (s + p).toNat ∧ ∀ i j : Nat, i < j → (j : Int) < s + p → ¬ E i j
def CYN (E : Nat → Nat → Prop) : Prop := ∀ i j : Nat, i < j → j ≤ 1000 → ¬ E i j
theorem CYS_u {E : Nat → Nat → Prop} (hD : DET E) {s p s' p' : Int} (h : CYS E s p) (h' : CYS E s' p') : s = s' ∧ p = p' := by
  obtain ⟨a, b, c, d, e⟩ := h
  obtain ⟨a', b', c', d', e'⟩ := h'
  have h1 : s + p = s' + p' := by
    rcases Int.lt_trichotomy (s + p) (s' + p') with q | q | q
    · exact absurd d (e' _ _ (by omega) (by omega))
    · exact q
    · exact absurd d' (e _ _ (by omega) (by omega))
  have d2 : E s.toNat s'.toNat := hD.2.2.1 _ _ _ d (by rw [h1]; exact hD.2.1 _ _ d')
  have h2 : s = s' := by
    rcases Int.lt_trichotomy s s' with q | q | q
    · exact absurd d2 (e _ _ (by omega) (by omega))
    · exact q
    · exact absurd (hD.2.1 _ _ d2) (e _ _ (by omega) (by omega))
  exact ⟨h2, by omega⟩
theorem CYS_N {E : Nat → Nat → Prop} {s p : Int} (h : CYS E s p) (h' : CYN E) : False := h' _ _ (show s.toNat < (s + p).toNat by have := h.1; have := h.2.1; omega) (by have := h.1; have := h.2.2.1; omega) h.2.2.2.1
theorem DET.sh {E : Nat → Nat → Prop} (hD : DET E) {i j : Nat} (h : E i j) : ∀ k, E (i + k) (j + k)
  | 0 => h
  | k + 1 => hD.2.2.2 _ _ (DET.sh hD h k)
theorem DET.mul {E : Nat → Nat → Prop} (hD : DET E) {i d : Nat} (h : E i (i + d)) : ∀ N, E i (i + N * d)
  | 0 => by rw [Nat.zero_mul]; exact hD.1 _
  | N + 1 => by
    have h1 := DET.mul hD h N
    have h2 := hD.sh h1 d
    rw [show i + N * d + d = i + (N + 1) * d by rw [Nat.add_mul]; omega] at h2
    exact hD.2.2.1 _ _ _ h h2
theorem CY_of {E : Nat → Nat → Prop} (hD : DET E) {m p s : Nat} (hp : 1 ≤ p) (h : E m (m + p)) (hn : ∀ j, m < j → j < m + p → ¬ E m j) (hs : s ≤ m) (h2 : E s (s + p)) (h3 : ∀ t, t < s → ¬ E t (t + p)) : ∀ i j : Nat, i < j → j < s + p → ¬ E i j := fun i j hij hj q => by
  obtain ⟨d, hd⟩ : ∃ d, j = i + d := ⟨j - i, by omega⟩
  subst hd
  -- d is a multiple of p
  have hmod : d % p = 0 := by
    refine Classical.byContradiction fun z => ?_
    have a1 := hD.mul h (i + 1)
    have a2 : E (i + (m + (i + 1) * p - i)) (i + d + (m + (i + 1) * p - i)) := hD.sh q _
    have hi : i ≤ m + (i + 1) * p := Nat.le_trans (by have := Nat.le_mul_of_pos_right (i + 1) hp; omega) (Nat.le_add_left _ m)
    rw [show i + (m + (i + 1) * p - i) = m + (i + 1) * p by omega, show i + d + (m + (i + 1) * p - i) = m + (i + 1) * p + d by omega] at a2
    have a3 : E m (m + (i + 1) * p + d) := hD.2.2.1 _ _ _ a1 a2
    have a4 := hD.sh (hD.mul h (i + 1 + d / p)) (d % p)
    have e : m + (i + 1 + d / p) * p + d % p = m + (i + 1) * p + d := by
      have := Nat.div_add_mod d p
      rw [Nat.add_mul, Nat.mul_comm (d / p) p]; omega
    rw [e] at a4
    have a5 : E m (m + d % p) := hD.2.2.1 _ _ _ a3 (hD.2.1 _ _ a4)
    exact hn (m + d % p) (by omega) (by have := Nat.mod_lt d hp; omega) a5
  have hpd : p ≤ d := Nat.le_of_dvd (by omega) (Nat.dvd_of_mod_eq_zero hmod)
  have hi : i < s := by omega
  have b1 := hD.mul q s
  have b2 := hD.sh b1 p
  have hge : s ≤ i + s * d := Nat.le_trans (Nat.le_mul_of_pos_right s (by omega)) (Nat.le_add_left _ _)
  have b3 := hD.sh h2 (i + s * d - s)
  rw [show s + (i + s * d - s) = i + s * d by omega, show s + p + (i + s * d - s) = i + s * d + p by omega] at b3
  exact h3 i hi (hD.2.2.1 _ _ _ b1 (hD.2.2.1 _ _ _ b3 (hD.2.1 _ _ b2)))
theorem CYN_of {E : Nat → Nat → Prop} (hD : DET E) (h : ∀ k, k < 1000 → ¬ E k 1000) : CYN E := fun i j hij hj q => by
  have := hD.sh q (1000 - j)
  rw [show j + (1000 - j) = 1000 by omega] at this
  exact h _ (by omega) this
theorem codeF_inj {b : Int} {R S : Int → Int} (hb : 1 ≤ b) : ∀ n : Nat, (∀ k : Int, 0 ≤ k → k < n → 0 ≤ R k ∧ R k < b) → (∀ k : Int, 0 ≤ k → k < n → 0 ≤ S k ∧ S k < b) → codeF b R n = codeF b S n → ∀ k : Int, 0 ≤ k → k < n → R k = S k
  | 0, _, _, _ => fun k h0 h1 => by omega
  | n + 1, hR, hS, h => by
    have e1 : codeF b R n * b + R n = codeF b S n * b + S n := h
    have r := hR n (by omega) (by omega)
    have s := hS n (by omega) (by omega)
    have d1 := dm_of (p := codeF b R n) (g := b) r
    have d2 := dm_of (p := codeF b S n) (g := b) s
    rw [e1] at d1
    have q1 : codeF b R n = codeF b S n := d1.1.symm.trans d2.1
    have q2 : R n = S n := d1.2.symm.trans d2.2
    intro k h0 h1
    by_cases e : k = n
    · rw [e]; exact q2
    · exact codeF_inj hb n (fun k h0 h1 => hR k h0 (by omega)) (fun k h0 h1 => hS k h0 (by omega)) q1 k h0 (by omega)
theorem codeF_c {b : Int} {R S : Int → Int} : ∀ n : Nat, (∀ k : Int, 0 ≤ k → k < n → R k = S k) → codeF b R n = codeF b S n
  | 0, _ => rfl
  | n + 1, h => by
    unfold codeF
    rw [codeF_c n (fun k h0 h1 => h k h0 (by omega)), h n (by omega) (by omega)]
theorem stepF_c {T : Int → Int} {g w n : Int} {R S : Int → Int} (hn : 1 ≤ n) (h : ∀ k, 0 ≤ k → k < n → R k = S k) {k : Int} (h0 : 0 ≤ k) (h1 : k < n) : stepF T g w n R k = stepF T g w n S k := by
  unfold stepF
  rw [h k h0 h1, h _ (md_b (k + 1) hn).1 (md_b (k + 1) hn).2, h _ (md_b (k - 1) hn).1 (md_b (k - 1) hn).2]
theorem EQO_det {T : Int → Int} {g w n : Int} {R : Int → Int} (hn : 1 ≤ n) : DET (EQO T g w n R) := ⟨fun _ _ _ _ => rfl, fun _ _ h k h0 h1 => (h k h0 h1).symm, fun _ _ _ h h' k h0 h1 => (h k h0 h1).trans (h' k h0 h1), fun _ _ h _ h0 h1 => stepF_c hn h h0 h1⟩
theorem stepF_b {V : VV} {r : Int} {n : Int} {R : Int → Int} (ho : RO V r) (ht : TR V r) (hn : 1 ≤ n) (hR : ∀ k, 0 ≤ k → k < n → 0 ≤ R k ∧ R k < V r 3) {k : Int} (h0 : 0 ≤ k) (h1 : k < n) : 0 ≤ stepF (V (r + 1)) (V r 3) (V r 4) n R k ∧ stepF (V (r + 1)) (V r 3) (V r 4) n R k < V r 3 := by
  have a := hR k h0 h1
  have b := hR _ (md_b (k + 1) hn).1 (md_b (k + 1) hn).2
  have c := hR _ (md_b (k - 1) hn).1 (md_b (k - 1) hn).2
  unfold stepF
  split
  · rename_i e
    have w := ho.word a b b
    rw [if_pos e] at w
    exact ht _ w.1 w.2
  · rename_i e
    have w := ho.word c a b
    rw [if_neg e] at w
    exact ht _ w.1 w.2
theorem orbF_b {V : VV} {r : Int} {n : Int} {R : Int → Int} (ho : RO V r) (ht : TR V r) (hn : 1 ≤ n) (hR : ∀ k, 0 ≤ k → k < n → 0 ≤ R k ∧ R k < V r 3) : ∀ (t : Nat) (k : Int), 0 ≤ k → k < n → 0 ≤ orbF (V (r + 1)) (V r 3) (V r 4) n R t k ∧ orbF (V (r + 1)) (V r 3) (V r 4) n R t k < V r 3
  | 0 => hR
  | t + 1 => fun _ h0 h1 => stepF_b ho ht hn (orbF_b ho ht hn hR t) h0 h1
theorem EQO_code {V : VV} {r b : Int} {n : Int} {R : Int → Int} (ho : RO V r) (ht : TR V r) (hn : 1 ≤ n) (hR : ∀ k, 0 ≤ k → k < n → 0 ≤ R k ∧ R k < V r 3) (hb : V r 3 ≤ b) (i j : Nat) : codeF b (orbF (V (r + 1)) (V r 3) (V r 4) n R i) n.toNat = codeF b (orbF (V (r + 1)) (V r 3) (V r 4) n R j) n.toNat ↔ EQO (V (r + 1)) (V r 3) (V r 4) n R i j := by
  have hg := ho.b.1
  have B := fun (t : Nat) (k : Int) (h0 : 0 ≤ k) (h1 : k < (n.toNat : Int)) => orbF_b ho ht hn hR t k h0 (show k < n by omega)
  constructor
  · intro h k h0 h1
    exact codeF_inj (by omega) n.toNat (fun k h0 h1 => ⟨(B i k h0 h1).1, by have := (B i k h0 h1).2; omega⟩) (fun k h0 h1 => ⟨(B j k h0 h1).1, by have := (B j k h0 h1).2; omega⟩) h k h0 (by omega)
  · intro h
    exact codeF_c _ fun k h0 h1 => h k h0 (by omega)

theorem CY_fin2 {E : Nat → Nat → Prop} {c : Int → Int} {m k s : Int} (hD : DET E) (hE : ∀ i j, 0 ≤ i → i ≤ k → 0 ≤ j → j ≤ k → (c i = c j ↔ E i.toNat j.toNat)) (hm : 0 ≤ m ∧ m < k) (hk : k ≤ 1000) (hke : E m.toNat k.toNat) (hn : ∀ j : Nat, m < j → j < k → ¬ E m.toNat j)
    (hs : 0 ≤ s ∧ s ≤ m) (h2 : c s = c (s + (k - m))) (h3 : ∀ t, 0 ≤ t → t < s → c t ≠ c (t + (k - m))) : CYS E s (k - m) := by
  refine ⟨hs.1, by omega, by omega, (hE s (s + (k - m)) hs.1 (by omega) (by omega) (by omega)).mp h2, fun i j hij hj => ?_⟩
  refine CY_of hD (m := m.toNat) (p := (k - m).toNat) (s := s.toNat) (by omega) (by rw [show m.toNat + (k - m).toNat = k.toNat by omega]; exact hke) (fun j h0 h1 => hn j (by omega) (by omega)) (by omega)
    (by have := (hE s (s + (k - m)) hs.1 (by omega) (by omega) (by omega)).mp h2; rw [show (s + (k - m)).toNat = s.toNat + (k - m).toNat by omega] at this; exact this)
    (fun t ht q => h3 t (by omega) (by omega) ((hE t (t + (k - m)) (by omega) (by omega) (by omega) (by omega)).mpr (by rw [show ((t : Int) + (k - m)).toNat = t + (k - m).toNat by omega, show ((t : Int)).toNat = t by omega]; exact q))) i j hij (by omega)
theorem CY_fin {E : Nat → Nat → Prop} {V : VV} {k s : Int} (hD : DET E) (hE : ∀ i j, 0 ≤ i → i ≤ 1000 → 0 ≤ j → j ≤ 1000 → (V 54 i = V 54 j ↔ E i.toNat j.toNat)) (hm : 0 ≤ k ∧ k < 1000) (hk : 1 ≤ 1000 - k) (hn : ∀ j, k < j → j < 1000 → V 54 k ≠ V 54 j) (he : V 54 k = V 54 (k + (1000 - k)))
    (hs : 0 ≤ s ∧ s ≤ k) (h2 : V 54 s = V 54 (s + (1000 - k))) (h3 : ∀ t, 0 ≤ t → t < s → V 54 t ≠ V 54 (t + (1000 - k))) : CYS E s (1000 - k) :=
  CY_fin2 (c := V 54) (m := k) hD hE hm (Int.le_refl _) ((hE k 1000 hm.1 (by omega) (by decide) (by decide)).mp (by rw [he, show k + (1000 - k) = 1000 by omega])) (fun j h0 h1 q => hn j (by omega) (by omega) ((hE k j hm.1 (by omega) (by omega) (by omega)).mpr (by rw [show ((j : Int)).toNat = j by omega]; exact q))) hs h2 h3
set_option maxHeartbeats 4000000 in
theorem ok_X5_setPeriod {V : VV} {p m : Int} (hp : 1 ≤ p) (hm : 0 ≤ m ∧ m + p ≤ 1000) (he : V 54 m = V 54 (m + p)) : Ok NC yX5_setPeriod cX5_setPeriod 2 none 1 21 [vA 53, vI p] V (pV (fun V' => ∃ s, (0 ≤ s ∧ s ≤ m) ∧ V 54 s = V 54 (s + p) ∧ (∀ t, 0 ≤ t → t < s → V 54 t ≠ V 54 (t + p)) ∧ V' = up (up V 53 2 p) 53 1 s)) := by
  refine Ok.intro (by decide +kernel) (Nat.le_of_ble_eq_true rfl) (fun X G hX hG hR hoa hoV => ?_)
  show J X G 0 [vA 53, vI p] [] V
  refine j_al0 hX dX5_setPeriod_0 rfl ?_
  refine j_il1 hX dX5_setPeriod_1 ?_
  refine j_putI hX hG fp_X5_45 rfl (by decide) dX5_setPeriod_2 ?_
  refine j_al0 hX dX5_setPeriod_5 rfl ?_
  refine j_iconst hX dX5_setPeriod_6 ⟨by decide, by decide⟩ ?_
  refine j_putI hX hG fp_X5_49 rfl (by decide) dX5_setPeriod_7 ?_
  have lp_10 : ∀ (f9 : Nat) (s : Int) (W : VV), (W = up (up V 53 2 p) 53 1 s) → (0 ≤ s ∧ s ≤ m) → (∀ t, 0 ≤ t → t < s → V 54 t ≠ V 54 (t + p)) → ((1001 - s).toNat) < f9 → J X G 10 [vA 53, vI p] [] W := by
    intro f9
    induction f9 with
    | zero => intro s W _ _ _ hm; exact absurd hm (Nat.not_lt_zero _)
    | succ f9 ih_10 =>
      intro s W hW hs hT hm
      subst hW
      refine j_al0 hX dX5_setPeriod_10 rfl ?_
      refine j_getI hX hG fl_X5_49 (Or.inl rfl) (by decide) dX5_setPeriod_11 ?_
      refine j_eqS (st' := [vI s]) (by rw [up_s]) ?_
      refine j_sipush hX dX5_setPeriod_14 (by decide) ⟨by decide, by decide⟩ ?_
      refine j_icmp_ge (tgt := 64) hX dX5_setPeriod_17 (by decide) (fun h_17 => ?_) (fun h_17 => ?_)
      · skip
        exact j_ret hR dX5_setPeriod_64 (by first | exact ⟨s, hs, h_48, hT, rfl⟩ | (exfalso; omega))
      · skip
        refine j_al0 hX dX5_setPeriod_20 rfl ?_
        refine j_getR (q := 54) hX hG fl_X5_9 rfl rfl (by decide) dX5_setPeriod_21 ?_
        refine j_al0 hX dX5_setPeriod_24 rfl ?_
        refine j_getI hX hG fl_X5_49 (Or.inl rfl) (by decide) dX5_setPeriod_25 ?_
        refine j_eqS (st' := [vI s, vA 54]) (by rw [up_s]) ?_
        refine j_pSL2 hX hG lk_X5_33 (ok_X11_bitsAt_in (n := 1001) (by decide) (by first | assumption | decide) (by omega)) (Nat.le_of_ble_eq_true rfl) (Nat.le_of_ble_eq_true rfl) (Nat.le_of_ble_eq_true rfl) rfl dX5_setPeriod_28 ?_
        refine j_eqS (st' := [vL (V 54 s)]) (by rw [up_n _ (by omega), up_n _ (by omega)]) ?_
        refine j_al0 hX dX5_setPeriod_31 rfl ?_
        refine j_getR (q := 54) hX hG fl_X5_9 rfl rfl (by decide) dX5_setPeriod_32 ?_
        refine j_al0 hX dX5_setPeriod_35 rfl ?_
        refine j_getI hX hG fl_X5_49 (Or.inl rfl) (by decide) dX5_setPeriod_36 ?_
        refine j_al0 hX dX5_setPeriod_39 rfl ?_
        refine j_getI hX hG fl_X5_45 (Or.inl rfl) (by decide) dX5_setPeriod_40 ?_
        refine j_eqS (st' := [vI p, vI s, vA 54, vL (V 54 s)]) (by rw [up_s, up_n _ (by decide), up_s]) ?_
        refine j_iadd hX dX5_setPeriod_43 (by omega) ?_
        refine j_pSL2 hX hG lk_X5_33 (ok_X11_bitsAt_in (n := 1001) (by decide) (by first | assumption | decide) (by omega)) (Nat.le_of_ble_eq_true rfl) (Nat.le_of_ble_eq_true rfl) (Nat.le_of_ble_eq_true rfl) rfl dX5_setPeriod_44 ?_
        refine j_eqS (st' := [vL (V 54 (s + p)), vL (V 54 s)]) (by rw [up_n _ (by omega), up_n _ (by omega)]) ?_
        refine j_lcmp_eq (tgt := 64) hX dX5_setPeriod_47 dX5_setPeriod_48 (by decide) (fun h_48 => ?_) (fun h_48 => ?_)
        · skip
          exact j_ret hR dX5_setPeriod_64 (by first | exact ⟨s, hs, h_48, hT, rfl⟩ | (exfalso; omega))
        · skip
          have h9 : ¬ V 54 s = V 54 (s + p) := h_48
          refine j_al0 hX dX5_setPeriod_51 rfl ?_
          refine j_dup hX dX5_setPeriod_52 rfl ?_
          refine j_getI hX hG fl_X5_49 (Or.inl rfl) (by decide) dX5_setPeriod_53 ?_
          refine j_iconst hX dX5_setPeriod_56 ⟨by decide, by decide⟩ ?_
          refine j_iadd hX dX5_setPeriod_57 (by rw [up_s]; omega) ?_
          refine j_putI hX hG fp_X5_49 rfl (by decide) dX5_setPeriod_58 ?_
          refine j_goto (tgt := 10) hX dX5_setPeriod_61 (by decide) ?_
          exact ih_10 (s + 1) _ (by rw [up_s, up_up]) ⟨by omega, by by_cases e : s = m; exact absurd (e ▸ he) h9; omega⟩ (lt_stepI hT h9) (by omega)
  exact lp_10 _ 0 _ rfl (by omega) (fun t h0 h1 => by omega) (Nat.lt_succ_self _)
set_option maxHeartbeats 4000000 in
theorem ok_X5_findLastAgain {V : VV} {E : Nat → Nat → Prop} (hE : ∀ i j, 0 ≤ i → i ≤ 1000 → 0 ≤ j → j ≤ 1000 → (V 54 i = V 54 j ↔ E i.toNat j.toNat)) (hD : DET E) : Ok NC yX5_findLastAgain cX5_findLastAgain 2 (some .boolean) 2 42 [vA 53] V (pI (fun x9 V' => ((x9 = 1 ∧ CYS E (V' 53 1) (V' 53 2)) ∨ (x9 = 0 ∧ CYN E)) ∧ fr [53] V V')) := by
  refine Ok.intro (by decide +kernel) (Nat.le_of_ble_eq_true rfl) (fun X G hX hG hR hoa hoV => ?_)
  show J X G 0 [vA 53, vU] [] V
  refine j_sipush hX dX5_findLastAgain_0 (by decide) ⟨by decide, by decide⟩ ?_
  refine j_is1 hX dX5_findLastAgain_3 rfl ?_
  have lp_4 : ∀ (f9 : Nat) (k : Int), (-1 ≤ k ∧ k ≤ 999) → (∀ j, k < j → j < 1000 → V 54 j ≠ V 54 1000) → ((k + 1).toNat) < f9 → J X G 4 [vA 53, vI k] [] V := by
    intro f9
    induction f9 with
    | zero => intro k _ _ hm; exact absurd hm (Nat.not_lt_zero _)
    | succ f9 ih_4 =>
      intro k hk hN hm
      refine j_il1 hX dX5_findLastAgain_4 ?_
      refine j_if_lt (tgt := 47) hX dX5_findLastAgain_5 (by decide) (fun h_5 => ?_) (fun h_5 => ?_)
      · skip
        refine j_iconst hX dX5_findLastAgain_47 ⟨by decide, by decide⟩ ?_
        exact j_retZ hR dX5_findLastAgain_48 (by omega) ⟨Or.inr ⟨rfl, CYN_of hD fun k h q => hN k (by omega) (by omega) ((hE k 1000 (by omega) (by omega) (by decide) (by decide)).mpr (by rw [show ((k : Int)).toNat = k by omega]; exact q))⟩, fr_0⟩
      · skip
        refine j_al0 hX dX5_findLastAgain_8 rfl ?_
        refine j_getR (q := 54) hX hG fl_X5_9 rfl rfl (by decide) dX5_findLastAgain_9 ?_
        refine j_il1 hX dX5_findLastAgain_12 ?_
        refine j_pSL2 hX hG lk_X5_33 (ok_X11_bitsAt_in (n := 1001) (by decide) (by first | assumption | decide) (by omega)) (Nat.le_of_ble_eq_true rfl) (Nat.le_of_ble_eq_true rfl) (Nat.le_of_ble_eq_true rfl) rfl dX5_findLastAgain_13 ?_
        refine j_al0 hX dX5_findLastAgain_16 rfl ?_
        refine j_getR (q := 54) hX hG fl_X5_9 rfl rfl (by decide) dX5_findLastAgain_17 ?_
        refine j_sipush hX dX5_findLastAgain_20 (by decide) ⟨by decide, by decide⟩ ?_
        refine j_pSL2 hX hG lk_X5_33 (ok_X11_bitsAt_in (n := 1001) (by decide) (by first | assumption | decide) (by omega)) (Nat.le_of_ble_eq_true rfl) (Nat.le_of_ble_eq_true rfl) (Nat.le_of_ble_eq_true rfl) rfl dX5_findLastAgain_23 ?_
        refine j_lcmp_ne (tgt := 41) hX dX5_findLastAgain_26 dX5_findLastAgain_27 (by decide) (fun h_27 => ?_) (fun h_27 => ?_)
        · skip
          refine j_inc1 hX dX5_findLastAgain_41 rfl (by omega) ?_
          refine j_goto (tgt := 4) hX dX5_findLastAgain_44 (by decide) ?_
          exact ih_4 _ (by omega) (fun j h0 h1 => by by_cases e : j = k; (rw [e]; exact h_27); exact hN j (by omega) h1) (by omega)
        · skip
          refine j_al0 hX dX5_findLastAgain_30 rfl ?_
          refine j_sipush hX dX5_findLastAgain_31 (by decide) ⟨by decide, by decide⟩ ?_
          refine j_il1 hX dX5_findLastAgain_34 ?_
          refine j_isub hX dX5_findLastAgain_35 (by omega) ?_
          refine j_cVV1 (ci := 5) hX hG lk_X5_37 (ok_X5_setPeriod (by omega) ⟨by omega, by omega⟩ (show V 54 k = V 54 (k + (1000 - k)) by rw [h_27, show k + (1000 - k) = 1000 by omega])) (by decide) rfl (Nat.le_of_ble_eq_true rfl) (Nat.le_of_ble_eq_true rfl) (Nat.le_of_ble_eq_true rfl) rfl dX5_findLastAgain_36 (fun V_36 h_36 => ?_)
          obtain ⟨s, hs_36, e_36, n_36, V_36e⟩ := h_36
          subst V_36e
          refine j_iconst hX dX5_findLastAgain_39 ⟨by decide, by decide⟩ ?_
          exact j_retZ hR dX5_findLastAgain_40 (by omega) ⟨Or.inl ⟨rfl, by rw [up_s, up_n _ (by decide), up_s]; exact CY_fin hD hE ⟨by omega, by omega⟩ (by omega) (fun j h0 h1 => fun q => hN j (by omega) (by omega) (q.symm.trans (h_27.trans (by rfl)))) (show V 54 k = V 54 (k + (1000 - k)) by rw [h_27, show k + (1000 - k) = 1000 by omega]) hs_36 e_36 n_36⟩, fr_u (fr_u fr_0 (by decide)) (by decide)⟩
  exact lp_4 _ _ ⟨by decide, by decide⟩ (fun j h0 h1 => by omega) (Nat.lt_succ_self _)
set_option maxHeartbeats 4000000 in
theorem ok_X5_follow {V : VV} (ho9 : RO V 15) (ht : TR V 15) (hn : 1 ≤ V 23 1 ∧ V 23 1 ≤ 16) (hQ : ∀ k, 0 ≤ k → k < V 23 1 → 0 ≤ V 24 k ∧ V 24 k < V 15 3) : Ok NC yX5_follow cX5_follow 7 (some .boolean) 4 88 [vA 53, vA 15, vA 23, vA 29, vA 31] V (pI (fun x9 V' => ((x9 = 1 ∧ CYS (EQO (V 16) (V 15 3) (V 15 4) (V 23 1) (V 24)) (V' 53 1) (V' 53 2)) ∨ (x9 = 0 ∧ CYN (EQO (V 16) (V 15 3) (V 15 4) (V 23 1) (V 24)))) ∧ fr [29, 30, 31, 32, 53, 54] V V')) := by
  refine Ok.intro (by decide +kernel) (Nat.le_of_ble_eq_true rfl) (fun X G hX hG hR hoa hoV => ?_)
  show J X G 0 [vA 53, vA 15, vA 23, vA 29, vA 31, vU, vU] [] V
  have hb9 := ho9.b
  have hD := EQO_det (T := V 16) (g := V 15 3) (w := V 15 4) (R := V 24) hn.1
  have hob := orbF_b ho9 ht hn.1 hQ
  have hcode := EQO_code ho9 ht hn.1 hQ (b := 6) (by omega)
  dsimp only [Int.reduceAdd] at hob hcode
  refine j_al3 hX dX5_follow_0 rfl ?_
  refine j_al2 hX dX5_follow_1 rfl ?_
  refine j_cVV1 (ci := 7) hX hG lk_X5_15 (ok_X7_copy (by decide) (by decide) (by decide) (by omega)) (by decide) rfl (Nat.le_of_ble_eq_true rfl) (Nat.le_of_ble_eq_true rfl) (Nat.le_of_ble_eq_true rfl) rfl dX5_follow_2 (fun V_2 h_2 => ?_)
  obtain ⟨a_2, b_2, s_2⟩ := h_2
  dsimp only [Int.reduceAdd] at b_2 s_2
  have f_2 : fr [29, 30] V V_2 := fr_s2 s_2
  have hc0 : codeF 6 (V_2 30) (V_2 29 1).toNat = codeF 6 (orbF (V 16) (V 15 3) (V 15 4) (V 23 1) (V 24) 0) (V 23 1).toNat := by rw [a_2]; exact codeF_c _ (fun k h0 h1 => b_2 k h0 (by omega))
  try dsimp only [Int.reduceAdd]
  refine j_al0 hX dX5_follow_5 rfl ?_
  refine j_getR (q := 54) hX hG fl_X5_9 rfl rfl (by decide) dX5_follow_6 ?_
  refine j_iconst hX dX5_follow_9 ⟨by decide, by decide⟩ ?_
  refine j_al3 hX dX5_follow_10 rfl ?_
  refine j_pVL0 (ci := 7) hX hG lk_X5_21 (ok_X7_code (by decide) (by rw [a_2]; omega) (fun k h0 h1 => by rw [a_2] at h1; have e := b_2 k h0 h1; have := hQ k h0 h1; show 0 ≤ V_2 30 k ∧ V_2 30 k < 6; omega)) (by decide) rfl (Nat.le_of_ble_eq_true rfl) (Nat.le_of_ble_eq_true rfl) (Nat.le_of_ble_eq_true rfl) rfl dX5_follow_11 ?_
  try dsimp only [Int.reduceAdd]
  refine j_cSV3 hX hG lk_X5_25 (ok_X11_putBits_in (n := 1001) (by decide) (by first | assumption | decide) (by decide)) (Nat.le_of_ble_eq_true rfl) (Nat.le_of_ble_eq_true rfl) (Nat.le_of_ble_eq_true rfl) rfl dX5_follow_14 (fun V_14 h_14 => ?_)
  subst h_14
  refine j_iconst hX dX5_follow_17 ⟨by decide, by decide⟩ ?_
  refine j_is5 hX dX5_follow_18 rfl ?_
  refine j_iconst hX dX5_follow_20 ⟨by decide, by decide⟩ ?_
  refine j_is6 hX dX5_follow_21 rfl ?_
  have lp_23 : ∀ (f9 : Nat) (m k : Int) (W : VV), (1 ≤ k ∧ k ≤ 1001) → (0 ≤ m ∧ m < k) → (fr [29, 30, 31, 32, 53, 54] V W) → (W 29 1 = V 23 1) → (∀ b, 0 ≤ b → b < V 23 1 → W 30 b = orbF (V 16) (V 15 3) (V 15 4) (V 23 1) (V 24) (k - 1).toNat b) → (∀ t, 0 ≤ t → t < k → W 54 t = codeF 6 (orbF (V 16) (V 15 3) (V 15 4) (V 23 1) (V 24) t.toNat) (V 23 1).toNat) → (∀ j : Nat, m < j → j < k → ¬ (EQO (V 16) (V 15 3) (V 15 4) (V 23 1) (V 24)) m.toNat j) → ((1002 - k).toNat) < f9 → J X G 23 [vA 53, vA 15, vA 23, vA 29, vA 31, vI m, vI k] [] W := by
    intro f9
    induction f9 with
    | zero => intro m k W _ _ _ _ _ _ _ hm; exact absurd hm (Nat.not_lt_zero _)
    | succ f9 ih_23 =>
      intro m k W hk hmk hs hl hRr hC hM hm
      refine j_il6 hX dX5_follow_23 ?_
      refine j_sipush hX dX5_follow_25 (by decide) ⟨by decide, by decide⟩ ?_
      refine j_icmp_gt (tgt := 111) hX dX5_follow_28 (by decide) (fun h_28 => ?_) (fun h_28 => ?_)
      · skip
        have hE : ∀ i j, 0 ≤ i → i ≤ 1000 → 0 ≤ j → j ≤ 1000 → (W 54 i = W 54 j ↔ (EQO (V 16) (V 15 3) (V 15 4) (V 23 1) (V 24)) i.toNat j.toNat) := fun i j i0 i1 j0 j1 => by rw [hC i i0 (by omega), hC j j0 (by omega)]; exact hcode _ _
        refine j_al0 hX dX5_follow_111 rfl ?_
        refine j_cVI0 (ci := 5) hX hG lk_X5_41 (ok_X5_findLastAgain hE hD) (by decide) rfl (Nat.le_of_ble_eq_true rfl) (Nat.le_of_ble_eq_true rfl) (Nat.le_of_ble_eq_true rfl) rfl dX5_follow_112 (fun x_112 V_112 h_112 => ?_)
        obtain ⟨r_112, f_112⟩ := h_112
        exact j_retZ hR dX5_follow_115 (by omega) ⟨r_112, fr_t hs (fr_w f_112 (by decide))⟩
      · skip
        have q15 : ∀ b, W 15 b = V 15 b := fun b => hs 15 b (by decide)
        have q16 : W 16 = V 16 := funext fun b => hs 16 b (by decide)
        have roW : RO W 15 := ho9.sm q15
        have trW : TR W 15 := fun e h0 h1 => by rw [show W (15 + 1) e = V (15 + 1) e from congrFun q16 e, q15]; exact ht e h0 (by rw [q15] at h1; exact h1)
        have qQ : ∀ b, 0 ≤ b → b < V 23 1 → 0 ≤ W 30 b ∧ W 30 b < V 15 3 := fun b h0 h1 => by rw [hRr b h0 h1]; exact hob _ b h0 h1
        refine j_al4 hX dX5_follow_31 rfl ?_
        refine j_al3 hX dX5_follow_33 rfl ?_
        refine j_al1 hX dX5_follow_34 rfl ?_
        refine j_cVV2 (ci := 7) hX hG lk_X5_29 (ok_X7_becomeStepOf roW trW (by rw [hl]; exact hn) (fun b h0 h1 => by rw [q15]; exact qQ b h0 (by rw [hl] at h1; exact h1))) (by decide) rfl (Nat.le_of_ble_eq_true rfl) (Nat.le_of_ble_eq_true rfl) (Nat.le_of_ble_eq_true rfl) rfl dX5_follow_35 (fun V_35 h_35 => ?_)
        obtain ⟨a_35, b_35, s_35⟩ := h_35
        rw [q15 3, q15 4, q16, hl] at b_35
        have f_35 : fr [31, 32] W V_35 := fr_s2 s_35
        refine j_al3 hX dX5_follow_38 rfl ?_
        refine j_al4 hX dX5_follow_39 rfl ?_
        refine j_cVV1 (ci := 7) hX hG lk_X5_15 (ok_X7_copy (by decide) (by decide) (by decide) (by rw [a_35, hl]; omega)) (by decide) rfl (Nat.le_of_ble_eq_true rfl) (Nat.le_of_ble_eq_true rfl) (Nat.le_of_ble_eq_true rfl) rfl dX5_follow_41 (fun V_41 h_41 => ?_)
        obtain ⟨a_41, b_41, s_41⟩ := h_41
        dsimp only [Int.reduceAdd] at b_41 s_41
        have f_41 : fr [29, 30] V_35 V_41 := fr_s2 s_41
        have g_41 : fr [29, 30, 31, 32] W V_41 := fr_t (fr_w f_35 (by decide)) (fr_w f_41 (by decide))
        have l_41 : V_41 29 1 = V 23 1 := by rw [a_41, a_35, hl]
        have r_41 : ∀ b, 0 ≤ b → b < V 23 1 → V_41 30 b = orbF (V 16) (V 15 3) (V 15 4) (V 23 1) (V 24) k.toNat b := fun b h0 h1 => by
          rw [b_41 b h0 (by rw [a_35, hl]; exact h1), b_35 b h0 h1, show k.toNat = (k - 1).toNat + 1 by omega]
          exact stepF_c hn.1 hRr h0 h1
        have hck : codeF 6 (V_41 30) (V_41 29 1).toNat = codeF 6 (orbF (V 16) (V 15 3) (V 15 4) (V 23 1) (V 24) k.toNat) (V 23 1).toNat := by rw [l_41]; exact codeF_c _ (fun j h0 h1 => r_41 j h0 (by omega))
        try dsimp only [Int.reduceAdd]
        refine j_al0 hX dX5_follow_44 rfl ?_
        refine j_getR (q := 54) hX hG fl_X5_9 rfl rfl (by decide) dX5_follow_45 ?_
        refine j_il6 hX dX5_follow_48 ?_
        refine j_al3 hX dX5_follow_50 rfl ?_
        refine j_pVL0 (ci := 7) hX hG lk_X5_21 (ok_X7_code (by decide) (by rw [l_41]; omega) (fun j h0 h1 => by rw [l_41] at h1; have e := r_41 j h0 h1; have := hob k.toNat j h0 h1; show 0 ≤ V_41 30 j ∧ V_41 30 j < 6; omega)) (by decide) rfl (Nat.le_of_ble_eq_true rfl) (Nat.le_of_ble_eq_true rfl) (Nat.le_of_ble_eq_true rfl) rfl dX5_follow_51 ?_
        try dsimp only [Int.reduceAdd]
        refine j_cSV3 hX hG lk_X5_25 (ok_X11_putBits_in (n := 1001) (by decide) (by first | assumption | decide) (by omega)) (Nat.le_of_ble_eq_true rfl) (Nat.le_of_ble_eq_true rfl) (Nat.le_of_ble_eq_true rfl) rfl dX5_follow_54 (fun V_54 h_54 => ?_)
        subst h_54
        rw [hck]
        have hC54 : ∀ t, 0 ≤ t → t < k + 1 → (up V_41 54 k (codeF 6 (orbF (V 16) (V 15 3) (V 15 4) (V 23 1) (V 24) k.toNat) (V 23 1).toNat)) 54 t = codeF 6 (orbF (V 16) (V 15 3) (V 15 4) (V 23 1) (V 24) t.toNat) (V 23 1).toNat := lt_stepI (fun t h0 h1 => by rw [up_n _ (by omega), g_41 54 t (by decide)]; exact hC t h0 h1) (up_s ..)
        obtain ⟨Z, hZ⟩ : ∃ Z, Z = up V_41 54 k (codeF 6 (orbF (V 16) (V 15 3) (V 15 4) (V 23 1) (V 24) k.toNat) (V 23 1).toNat) := ⟨_, rfl⟩
        have fZ : fr [29, 30, 31, 32, 53, 54] V Z := by rw [hZ]; exact fr_u (fr_t hs (fr_w g_41 (by decide))) (by decide)
        have lZ : Z 29 1 = V 23 1 := by rw [hZ, up_n _ (by omega)]; exact l_41
        have rZ : ∀ b, 0 ≤ b → b < V 23 1 → Z 30 b = orbF (V 16) (V 15 3) (V 15 4) (V 23 1) (V 24) k.toNat b := fun b h0 h1 => by rw [hZ, up_n _ (by omega)]; exact r_41 b h0 h1
        rw [← hZ] at hC54 ⊢
        clear hZ
        refine j_al0 hX dX5_follow_57 rfl ?_
        refine j_getR (q := 54) hX hG fl_X5_9 rfl rfl (by decide) dX5_follow_58 ?_
        refine j_il6 hX dX5_follow_61 ?_
        refine j_pSL2 hX hG lk_X5_33 (ok_X11_bitsAt_in (n := 1001) (by decide) (by first | assumption | decide) (by omega)) (Nat.le_of_ble_eq_true rfl) (Nat.le_of_ble_eq_true rfl) (Nat.le_of_ble_eq_true rfl) rfl dX5_follow_63 ?_
        refine j_al0 hX dX5_follow_66 rfl ?_
        refine j_getR (q := 54) hX hG fl_X5_9 rfl rfl (by decide) dX5_follow_67 ?_
        refine j_il5 hX dX5_follow_70 ?_
        refine j_pSL2 hX hG lk_X5_33 (ok_X11_bitsAt_in (n := 1001) (by decide) (by first | assumption | decide) (by omega)) (Nat.le_of_ble_eq_true rfl) (Nat.le_of_ble_eq_true rfl) (Nat.le_of_ble_eq_true rfl) rfl dX5_follow_72 ?_
        refine j_lcmp_ne (tgt := 90) hX dX5_follow_75 dX5_follow_76 (by decide) (fun h_76 => ?_) (fun h_76 => ?_)
        · skip
          refine j_il6 hX dX5_follow_90 ?_
          refine j_iconst hX dX5_follow_92 ⟨by decide, by decide⟩ ?_
          refine j_il5 hX dX5_follow_93 ?_
          refine j_imul hX dX5_follow_95 (by omega) ?_
          refine j_iconst hX dX5_follow_96 ⟨by decide, by decide⟩ ?_
          refine j_iadd hX dX5_follow_97 (by omega) ?_
          refine j_icmp_ne (tgt := 105) hX dX5_follow_98 (by decide) (fun h_98 => ?_) (fun h_98 => ?_)
          · skip
            refine j_inc6 hX dX5_follow_105 rfl (by omega) ?_
            refine j_goto (tgt := 23) hX dX5_follow_108 (by decide) ?_
            exact ih_23 _ _ _ (by omega) (by omega) fZ lZ (fun b h0 h1 => by rw [show k + 1 - 1 = k by omega]; exact rZ b h0 h1) hC54 (by first | (intro j h0 h1; exfalso; omega) | exact (fun j h0 h1 => by by_cases e : (j : Int) = k; (intro q; apply h_76; rw [hC54 k (by omega) (by omega), hC54 m hmk.1 (by omega)]; exact ((hcode _ _).mpr (by rw [show k.toNat = j by omega]; exact q)).symm); exact hM j h0 (by omega))) (by omega)
          · skip
            refine j_il6 hX dX5_follow_101 ?_
            refine j_is5 hX dX5_follow_103 rfl ?_
            refine j_inc6 hX dX5_follow_105 rfl (by omega) ?_
            refine j_goto (tgt := 23) hX dX5_follow_108 (by decide) ?_
            exact ih_23 _ _ _ (by omega) (by omega) fZ lZ (fun b h0 h1 => by rw [show k + 1 - 1 = k by omega]; exact rZ b h0 h1) hC54 (by first | (intro j h0 h1; exfalso; omega) | exact (fun j h0 h1 => by by_cases e : (j : Int) = k; (intro q; apply h_76; rw [hC54 k (by omega) (by omega), hC54 m hmk.1 (by omega)]; exact ((hcode _ _).mpr (by rw [show k.toNat = j by omega]; exact q)).symm); exact hM j h0 (by omega))) (by omega)
        · skip
          have hke : (EQO (V 16) (V 15 3) (V 15 4) (V 23 1) (V 24)) m.toNat k.toNat := (hcode _ _).mp (by rw [← hC54 m hmk.1 (by omega), ← hC54 k (by omega) (by omega)]; exact h_76.symm)
          refine j_al0 hX dX5_follow_79 rfl ?_
          refine j_il6 hX dX5_follow_80 ?_
          refine j_il5 hX dX5_follow_82 ?_
          refine j_isub hX dX5_follow_84 (by omega) ?_
          refine j_cVV1 (ci := 5) hX hG lk_X5_37 (ok_X5_setPeriod (by omega) ⟨hmk.1, by omega⟩ (show Z 54 m = Z 54 (m + (k - m)) by rw [show m + (k - m) = k by omega]; exact h_76.symm)) (by decide) rfl (Nat.le_of_ble_eq_true rfl) (Nat.le_of_ble_eq_true rfl) (Nat.le_of_ble_eq_true rfl) rfl dX5_follow_85 (fun V_85 h_85 => ?_)
          obtain ⟨s, hs_85, e_85, n_85, V_85e⟩ := h_85
          subst V_85e
          refine j_iconst hX dX5_follow_88 ⟨by decide, by decide⟩ ?_
          exact j_retZ hR dX5_follow_89 (by omega) ⟨Or.inl ⟨rfl, by rw [up_s, up_n _ (by decide), up_s]; exact CY_fin2 (c := Z 54) hD (fun i j i0 i1 j0 j1 => by rw [hC54 i i0 (by omega), hC54 j j0 (by omega)]; exact hcode _ _) hmk (by omega) hke (fun j h0 h1 => hM j h0 h1) hs_85 e_85 n_85⟩, fr_u (fr_u fZ (by decide)) (by decide)⟩
  exact lp_23 _ _ _ _ ⟨by decide, by decide⟩ ⟨by decide, by decide⟩ (fr_u (fr_w f_2 (by decide)) (by decide)) (by rw [up_n _ (by omega)]; exact a_2) (fun b h0 h1 => by rw [up_n _ (by omega)]; exact b_2 b h0 h1) (fun t h0 h1 => by rw [show t = 0 by omega, up_s]; exact hc0) (fun j h0 h1 => by omega) (Nat.lt_succ_self _)
