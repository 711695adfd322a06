/-! pairs of nodes -/
def anyR (n : Int) (p : Int → Bool) : Bool := (List.range n.toNat).any (fun e => p (e : Int))
theorem anyR_t {n : Int} {p : Int → Bool} : anyR n p = true ↔ ∃ e, 0 ≤ e ∧ e < n ∧ p e = true := by
  unfold anyR
  rw [List.any_eq_true]
  constructor
  · rintro ⟨e, he, h⟩
    exact ⟨e, by omega, by have := List.mem_range.mp he; omega, h⟩
  · rintro ⟨e, h0, h1, h⟩
    exact ⟨e.toNat, List.mem_range.mpr (by omega), by rwa [show ((e.toNat : Nat) : Int) = e by omega]⟩
theorem anyR_0 {p : Int → Bool} : anyR 0 p = false := rfl
theorem anyR_S {n : Int} {p : Int → Bool} (h : 0 ≤ n) : anyR (n + 1) p = (anyR n p || p n) := by
  unfold anyR
  rw [show (n + 1).toNat = n.toNat + 1 by omega, List.range_succ, List.any_append, List.any_cons, List.any_nil, Bool.or_false, show ((n.toNat : Nat) : Int) = n by omega]
theorem anyR_f {n : Int} {p : Int → Bool} (h : ∀ e, 0 ≤ e → e < n → p e = false) : anyR n p = false := by
  cases e : anyR n p with
  | false => rfl
  | true =>
    obtain ⟨x, a, b, c⟩ := anyR_t.mp e
    rw [h x a b] at c; cases c
/-- the sets of the second nodes in a row of bit sets -/
def RB (W : VV) (k M : Int) (S : Int → Int → Prop) : Prop := ∀ a, 0 ≤ a → a < M → ∀ b : Nat, b < 64 → (bt 64 (W k a) b = true ↔ S a b)
theorem RB_up {W : VV} {k M a0 x : Int} {S S' : Int → Int → Prop} (h : RB W k M S) (hx : ∀ b : Nat, b < 64 → (bt 64 x b = true ↔ S' a0 b)) (hn : ∀ a, a ≠ a0 → ∀ b : Nat, (S' a b ↔ S a b)) : RB (up W k a0 x) k M S' := fun a h0 h1 b hb => by
  by_cases e : a = a0
  · rw [e, up_s]; exact hx b hb
  · rw [up_n _ (by omega), hn a e b]; exact h a h0 h1 b hb
theorem RB_k {W : VV} {k k' M j x : Int} {S : Int → Int → Prop} (h : RB W k M S) (hk : k ≠ k') : RB (up W k' j x) k M S := fun a h0 h1 b hb => by
  rw [up_n _ (by omega)]; exact h a h0 h1 b hb
theorem RB_e {V W : VV} {k M : Int} {S : Int → Int → Prop} (h : RB V k M S) (e : ∀ b, W k b = V k b) : RB W k M S := fun a h0 h1 b hb => by rw [e]; exact h a h0 h1 b hb
theorem RB_i {V : VV} {k M : Int} {S S' : Int → Int → Prop} (h : RB V k M S) (e : ∀ a b, 0 ≤ a → a < M → 0 ≤ b → b < 64 → (S' a b ↔ S a b)) : RB V k M S' := fun a h0 h1 b hb => by rw [h a h0 h1 b hb, e a b h0 h1 (by omega) (by omega)]
theorem bt_m1x {x : Int} {i : Nat} (h : i < 64) : bt 64 (bxor 64 x (-1)) i = !bt 64 x i := by rw [bt_xor, bt_m1 h, Bool.xor_true]
theorem bt_lt {x : Int} {k i : Nat} (h0 : 0 ≤ x) (h : x < 2 ^ k) (hi : i < 64) (hk : k ≤ i) : bt 64 x i = false := by
  have h9 : (2 : Int) ^ k = ((2 ^ k : Nat) : Int) := by push_cast; rfl
  rw [show x = ((x.toNat : Nat) : Int) by omega, bt_nat hi]
  exact Nat.testBit_lt_two_pow (Nat.lt_of_lt_of_le (by omega : x.toNat < 2 ^ k) (Nat.pow_le_pow_right (by decide) hk))
theorem ediv0 {x : Int} {k : Nat} (h : x / 2 ^ k = 0) : 0 ≤ x ∧ x < 2 ^ k := by
  have hp := p2pos k
  have h1 := Int.mul_ediv_add_emod x (2 ^ k)
  have h2 := Int.emod_nonneg x (show (2 : Int) ^ k ≠ 0 by omega)
  have h3 := Int.emod_lt_of_pos x hp
  rw [h, Int.mul_zero] at h1
  omega
theorem bt_full {k i : Nat} (hk : k < 63) (hi : i < 64) : bt 64 (1 * 2 ^ k - 1) i = decide (i < k) := by
  have h9 : (1 * (2 : Int) ^ k - 1) = ((2 ^ k - 1 : Nat) : Int) := by
    have h1 : 1 ≤ 2 ^ k := Nat.one_le_two_pow
    have h2 : ((2 ^ k : Nat) : Int) = 2 ^ k := by push_cast; rfl
    rw [Int.one_mul, ← h2]
    omega
  rw [h9, bt_nat hi, Nat.testBit_two_pow_sub_one]
theorem bnz {x : Int} (hx : r64 x) : x ≠ 0 ↔ ∃ b : Nat, b < 64 ∧ bt 64 x b = true := by
  constructor
  · intro h
    refine Classical.byContradiction fun q => h (ext64 hx ⟨by decide, by decide⟩ fun i hi => ?_)
    rw [bt_0]
    cases e : bt 64 x i with
    | false => rfl
    | true => exact absurd ⟨i, hi, e⟩ q
  · rintro ⟨b, hb, h⟩ rfl
    rw [bt_0] at h; cases h
section PAIRS
variable (T : Int → Int) (g N n : Int)
/-- a step of a pair of nodes; the pairs reached first; those reached by k + 1 steps -/
def pst (a b a' b' : Int) : Prop := ∃ e e', (0 ≤ e ∧ e < n) ∧ (0 ≤ e' ∧ e' < n) ∧ T e = T e' ∧ e / g = a ∧ e' / g = b ∧ e % N = a' ∧ e' % N = b'
def pWk : Nat → Int → Int → Prop
  | 0, a', b' => a' ≠ b' ∧ ∃ a, pst T g N n a a a' b'
  | k + 1, a', b' => ∃ a b, pWk k a b ∧ pst T g N n a b a' b'
/-- the length of the shortest diamond, or 0 -/
def DI (s : Int) : Prop := (s = 0 ∧ ∀ k a, ¬ pWk T g N n k a a) ∨ ∃ k : Nat, s = k + 1 ∧ (∃ a, pWk T g N n k a a) ∧ ∀ j, j < k → ∀ a, ¬ pWk T g N n j a a
/-- sets of pairs with ways forth and back -/
def BC (B : Int → Int → Prop) : Prop := ∀ a b, B a b → (∃ a' b', B a' b' ∧ pst T g N n a b a' b') ∧ ∃ a' b', B a' b' ∧ pst T g N n a' b' a b
def APT : Prop := ∀ B, BC T g N n B → ∀ a b, B a b → a = b
end PAIRS
theorem DI_u {T : Int → Int} {g N n s s' : Int} (h : DI T g N n s) (h' : DI T g N n s') : s = s' := by
  rcases h with ⟨a, b⟩ | ⟨k, a, ⟨x, b⟩, c⟩
  · rcases h' with ⟨a', b'⟩ | ⟨k', a', ⟨x', b'⟩, c'⟩
    · omega
    · exact absurd b' (b k' x')
  · rcases h' with ⟨a', b'⟩ | ⟨k', a', ⟨x', b'⟩, c'⟩
    · exact absurd b (b' k x)
    · have h1 : ¬ k < k' := fun q => c' k q x b
      have h2 : ¬ k' < k := fun q => c k' q x' b'
      omega
theorem pst_b {T : Int → Int} {g N n a b a' b' : Int} (hN : 1 ≤ N) (h : pst T g N n a b a' b') : (0 ≤ a' ∧ a' < N) ∧ 0 ≤ b' ∧ b' < N := by
  obtain ⟨e, e', h1, h2, h3, h4, h5, h6, h7⟩ := h
  have := md_b e hN
  have := md_b e' hN
  omega
theorem pWk_b {T : Int → Int} {g N n : Int} (hN : 1 ≤ N) : ∀ (k : Nat) {a b : Int}, pWk T g N n k a b → (0 ≤ a ∧ a < N) ∧ 0 ≤ b ∧ b < N
  | 0, _, _, ⟨_, _, h⟩ => pst_b hN h
  | _ + 1, _, _, ⟨_, _, _, h⟩ => pst_b hN h
/-- once a length brings nothing new, no later one does -/
theorem pWk_end {T : Int → Int} {g N n : Int} {k : Nat} (h : ∀ a b, pWk T g N n k a b → ∃ j, j < k ∧ pWk T g N n j a b) : ∀ (m : Nat) a b, pWk T g N n m a b → ∃ j, j < k ∧ pWk T g N n j a b
  | 0, a, b, hm => by
    by_cases e : 0 < k
    · exact ⟨0, e, hm⟩
    · have : k = 0 := by omega
      subst this
      exact h a b hm
  | m + 1, a, b, ⟨c, d, h1, h2⟩ => by
    obtain ⟨j, hj, h3⟩ := pWk_end h m c d h1
    by_cases e : j + 1 < k
    · exact ⟨j + 1, e, c, d, h3, h2⟩
    · have : j + 1 = k := by omega
      exact h a b (this ▸ ⟨c, d, h3, h2⟩)
theorem cntI_le {p r : Int → Bool} : ∀ n : Nat, (∀ k : Int, 0 ≤ k → k < n → p k = true → r k = true) → cntI p n ≤ cntI r n
  | 0, _ => Int.le_refl _
  | n + 1, h => by
    have ih := cntI_le n (fun k h0 h1 => h k h0 (by omega))
    have h2 := h n (by omega) (by omega)
    unfold cntI
    cases e : p n with
    | false => simp; split <;> omega
    | true => rw [h2 e]; simp; exact ih
theorem cntI_lt {p r : Int → Bool} : ∀ n : Nat, (∀ k : Int, 0 ≤ k → k < n → p k = true → r k = true) → (∃ k : Int, 0 ≤ k ∧ k < n ∧ p k = false ∧ r k = true) → cntI p n + 1 ≤ cntI r n
  | 0, _, ⟨k, h0, h1, _⟩ => absurd h1 (by omega)
  | n + 1, h, ⟨k, h0, h1, h2, h3⟩ => by
    by_cases e : k = n
    · have ih := cntI_le n (fun k h0 h1 => h k h0 (by omega))
      unfold cntI
      rw [← e, h2, h3]; simp; omega
    · have ih := cntI_lt n (fun k h0 h1 => h k h0 (by omega)) ⟨k, h0, by omega, h2, h3⟩
      have h4 := h n (by omega) (by omega)
      unfold cntI
      cases e : p n with
      | false => simp; split <;> omega
      | true => rw [h4 e]; simp; omega
/-- how many pairs stand in the sets -/
def cntP (V : VV) (k : Int) : Int := cntI (fun p => bt 64 (V k (p / 36)) (p % 36).toNat) 1296
theorem cntP_b (V : VV) (k : Int) : 0 ≤ cntP V k ∧ cntP V k ≤ 1296 := by
  have := cntI_b (fun p => bt 64 (V k (p / 36)) (p % 36).toNat) 1296
  unfold cntP
  omega
theorem cntP_lt {V W : VV} {k : Int} (h : ∀ a, 0 ≤ a → a < 36 → ∀ b : Nat, b < 36 → bt 64 (V k a) b = true → bt 64 (W k a) b = true) {a : Int} {b : Nat} (h0 : 0 ≤ a) (h1 : a < 36) (hb : b < 36) (h2 : bt 64 (V k a) b = false) (h3 : bt 64 (W k a) b = true) : cntP V k + 1 ≤ cntP W k := by
  refine cntI_lt 1296 (fun p h0 h1 => h _ (by omega) (by omega) _ (by omega)) ⟨a * 36 + b, by omega, by omega, ?_, ?_⟩
  · rw [show (a * 36 + (b : Int)) / 36 = a by omega, show ((a * 36 + (b : Int)) % 36).toNat = b by omega]; exact h2
  · rw [show (a * 36 + (b : Int)) / 36 = a by omega, show ((a * 36 + (b : Int)) % 36).toNat = b by omega]; exact h3

set_option maxHeartbeats 4000000 in
theorem ok_X6_leaveEqualNodes {V : VV} (ho9 : RO V 15) (ht : TR V 15) (hl : LK V 17 (V 15 5) (V 16) (fun e => e / V 15 3) (fun e => e % V 15 6)) : Ok NC yX6_leaveEqualNodes cX6_leaveEqualNodes 6 none 2 43 [vA 38, vA 15] V (pV (fun V' => RB V' 41 36 (pWk (V 16) (V 15 3) (V 15 6) (V 15 5) 0) ∧ fr [41] V V')) := by
  refine Ok.intro (by decide +kernel) (Nat.le_of_ble_eq_true rfl) (fun X G hX hG hR hoa hoV => ?_)
  show J X G 0 [vA 38, vA 15, vU, vU, vU, vU] [] V
  have hb9 := ho9.b
  refine j_al0 hX dX6_leaveEqualNodes_0 rfl ?_
  refine j_getR (q := 41) hX hG fl_X6_18 rfl rfl (by decide) dX6_leaveEqualNodes_1 ?_
  refine j_lconst (x := 0) hX dX6_leaveEqualNodes_4 rfl ⟨by decide, by decide⟩ ?_
  refine j_cSV2 hX hG lk_X6_48 (ok_J7_fill_d0a16 (n := 36) (by decide) (by first | assumption | decide)) (Nat.le_of_ble_eq_true rfl) (Nat.le_of_ble_eq_true rfl) (Nat.le_of_ble_eq_true rfl) rfl dX6_leaveEqualNodes_5 (fun V_5 h_5 => ?_)
  subst h_5
  refine j_iconst hX dX6_leaveEqualNodes_8 ⟨by decide, by decide⟩ ?_
  refine j_is2 hX dX6_leaveEqualNodes_9 rfl ?_
  have lp_10 : ∀ (f9 : Nat) (i : Int) (W : VV), (0 ≤ i ∧ i ≤ V 15 5) → (fr [41] V W) → (RB W 41 36 (fun a b => a ≠ b ∧ ∃ e e', (0 ≤ e ∧ e < i) ∧ (0 ≤ e' ∧ e' < V 15 5) ∧ V 16 e = V 16 e' ∧ e / V 15 3 = e' / V 15 3 ∧ e % V 15 6 = a ∧ e' % V 15 6 = b)) → ((V 15 5 - i).toNat) < f9 → J X G 10 [vA 38, vA 15, vI i, vU, vU, vU] [] W := by
    intro f9
    induction f9 with
    | zero => intro i W _ _ _ hm; exact absurd hm (Nat.not_lt_zero _)
    | succ f9 ih_10 =>
      intro i W hi hs hB hm
      refine j_il2 hX dX6_leaveEqualNodes_10 ?_
      refine j_al1 hX dX6_leaveEqualNodes_11 rfl ?_
      refine j_getI hX hG fl_X6_67 (Or.inl rfl) (by decide) dX6_leaveEqualNodes_12 ?_
      refine j_icmp_ge (tgt := 79) hX dX6_leaveEqualNodes_15 (by decide) (fun h_15 => ?_) (fun h_15 => ?_)
      · skip
        exact j_ret hR dX6_leaveEqualNodes_79 ⟨RB_i hB (fun a b _ _ _ _ => by have hie : i = V 15 5 := (by have := hs 15 5 (by decide); omega); subst hie; constructor; (rintro ⟨c, x, e, e', h1, h2, h3, h4, h5, h6, h7⟩; exact ⟨c, e, e', h1, h2, h3, by omega, h6, h7⟩); (rintro ⟨c, e, e', h1, h2, h3, h4, h5, h6⟩; exact ⟨c, e / V 15 3, e, e', h1, h2, h3, rfl, h4.symm, h5, h6⟩)), hs⟩
      · skip
        have q5 : W 15 5 = V 15 5 := hs 15 5 (by decide)
        have q3 : W 15 3 = V 15 3 := hs 15 3 (by decide)
        have q6 : W 15 6 = V 15 6 := hs 15 6 (by decide)
        have q16 : ∀ b, W 16 b = V 16 b := fun b => hs 16 b (by decide)
        have q17 : ∀ b, W 17 b = V 17 b := fun b => hs 17 b (by decide)
        have hti : 0 ≤ V 16 i ∧ V 16 i < V 15 3 := ht i hi.1 (by omega)
        have hf9 := nd_div6 ho9 hi.1 (show i < V 15 5 by omega)
        have ht9 := md_b i (n := V 15 6) (by omega)
        refine j_il2 hX dX6_leaveEqualNodes_18 ?_
        refine j_al1 hX dX6_leaveEqualNodes_19 rfl ?_
        refine j_getI hX hG fl_X6_70 (Or.inl rfl) (by decide) dX6_leaveEqualNodes_20 ?_
        refine j_pSI2 hX hG lk_X6_73 (ok_X11_remainder_in (by first | assumption | omega | decide) (by first | assumption | omega | decide)) (Nat.le_of_ble_eq_true rfl) (Nat.le_of_ble_eq_true rfl) (Nat.le_of_ble_eq_true rfl) rfl dX6_leaveEqualNodes_23 ?_
        refine j_is3 hX dX6_leaveEqualNodes_26 rfl ?_
        refine j_al1 hX dX6_leaveEqualNodes_27 rfl ?_
        refine j_al1 hX dX6_leaveEqualNodes_28 rfl ?_
        refine j_il2 hX dX6_leaveEqualNodes_29 ?_
        refine j_pVI1 (ci := 8) hX hG lk_X6_77 (ok_X8_gives (Or.inr (Or.inl rfl)) (by first | assumption | omega | decide)) (by decide) rfl (Nat.le_of_ble_eq_true rfl) (Nat.le_of_ble_eq_true rfl) (Nat.le_of_ble_eq_true rfl) rfl dX6_leaveEqualNodes_30 ?_
        try dsimp only [Int.reduceAdd]
        refine j_il2 hX dX6_leaveEqualNodes_33 ?_
        refine j_al1 hX dX6_leaveEqualNodes_34 rfl ?_
        refine j_getI hX hG fl_X6_81 (Or.inl rfl) (by decide) dX6_leaveEqualNodes_35 ?_
        refine j_pSI2 hX hG lk_X6_84 (ok_X11_quotient_in (by first | assumption | omega | decide) (by first | assumption | omega | decide)) (Nat.le_of_ble_eq_true rfl) (Nat.le_of_ble_eq_true rfl) (Nat.le_of_ble_eq_true rfl) rfl dX6_leaveEqualNodes_38 ?_
        refine j_pVL2 (ci := 8) hX hG lk_X6_87 (ok_X8_after (Or.inr (Or.inl rfl)) (by rw [q16]; omega) (by rw [q3]; omega)) (by decide) rfl (Nat.le_of_ble_eq_true rfl) (Nat.le_of_ble_eq_true rfl) (Nat.le_of_ble_eq_true rfl) rfl dX6_leaveEqualNodes_41 ?_
        try dsimp only [Int.reduceAdd]
        refine j_ls4 hX dX6_leaveEqualNodes_44 rfl ?_
        refine j_al0 hX dX6_leaveEqualNodes_46 rfl ?_
        refine j_getR (q := 41) hX hG fl_X6_18 rfl rfl (by decide) dX6_leaveEqualNodes_47 ?_
        refine j_il3 hX dX6_leaveEqualNodes_50 ?_
        refine j_al0 hX dX6_leaveEqualNodes_51 rfl ?_
        refine j_getR (q := 41) hX hG fl_X6_18 rfl rfl (by decide) dX6_leaveEqualNodes_52 ?_
        refine j_il3 hX dX6_leaveEqualNodes_55 ?_
        refine j_pSL2 hX hG lk_X6_91 (ok_X11_bitsAt_in (n := 36) (by decide) (by first | assumption | decide) (by rw [q6]; omega)) (Nat.le_of_ble_eq_true rfl) (Nat.le_of_ble_eq_true rfl) (Nat.le_of_ble_eq_true rfl) rfl dX6_leaveEqualNodes_56 ?_
        refine j_ll4 hX dX6_leaveEqualNodes_59 ?_
        refine j_lconst (x := 1) hX dX6_leaveEqualNodes_61 rfl ⟨by decide, by decide⟩ ?_
        refine j_il3 hX dX6_leaveEqualNodes_62 ?_
        refine j_lshl hX dX6_leaveEqualNodes_63 (by rw [q6]; omega) (p2_62 (by rw [q6]; omega)) ?_
        refine j_ldc2 (x := (-1)) hX dX6_leaveEqualNodes_64 lc_X6_95 ⟨by decide, by decide⟩ ?_
        refine j_lxor hX dX6_leaveEqualNodes_67 ?_
        refine j_land hX dX6_leaveEqualNodes_68 ?_
        refine j_lor hX dX6_leaveEqualNodes_69 ?_
        refine j_cSV3 hX hG lk_X6_97 (ok_X11_putBits_in (n := 36) (by decide) (by first | assumption | decide) (by rw [q6]; omega)) (Nat.le_of_ble_eq_true rfl) (Nat.le_of_ble_eq_true rfl) (Nat.le_of_ble_eq_true rfl) rfl dX6_leaveEqualNodes_70 (fun V_70 h_70 => ?_)
        subst h_70
        refine j_inc2 hX dX6_leaveEqualNodes_73 rfl (by omega) ?_
        refine j_goto (tgt := 10) hX dX6_leaveEqualNodes_76 (by decide) ?_
        refine j_fg3 ?_
        refine j_fg4 ?_
        exact ih_10 _ _ (by omega) (fr_u hs (by decide)) (RB_up hB (fun b hb => by rw [q3, q6, q16, q17, bt_or, bt_and, bt_m1x hb, bt_pow1 hb, Bool.or_eq_true, Bool.and_eq_true, hB _ (by omega) (by omega) b hb, hl _ _ hti.1 (by omega) hf9.1 (by omega) b hb]; simp only [Bool.not_eq_true', decide_eq_false_iff_not]; constructor; (rintro (⟨c, e, e', h⟩ | ⟨⟨e', c1, c2, c3, c4, c5⟩, c6⟩); (exact ⟨c, e, e', ⟨h.1.1, by omega⟩, h.2⟩); exact ⟨by omega, i, e', ⟨hi.1, by omega⟩, ⟨c1, c2⟩, c3.symm, c4.symm, rfl, c5⟩); (rintro ⟨c, e, e', h1, h2, h3, h4, h5, h6⟩; by_cases ei : e = i; (subst ei; exact Or.inr ⟨⟨e', h2.1, h2.2, h3.symm, h4.symm, h6⟩, by omega⟩); exact Or.inl ⟨c, e, e', ⟨h1.1, by omega⟩, h2, h3, h4, h5, h6⟩)) (fun a ha b => by rw [q6] at ha; constructor; (rintro ⟨c, e, e', h1, h2, h3, h4, h5, h6⟩; refine ⟨c, e, e', ⟨h1.1, ?_⟩, h2, h3, h4, h5, h6⟩; by_cases ei : e = i; (subst ei; exact absurd h5.symm ha); omega); (rintro ⟨c, e, e', h1, h⟩; exact ⟨c, e, e', ⟨h1.1, by omega⟩, h⟩))) (by omega)
  exact lp_10 _ _ _ (by omega) (fr_f fr_0 (by decide)) (fun a h0 h1 b hb => by rw [fill_in _ h0 h1, bt_0]; constructor; (intro z; cases z); (rintro ⟨-, e, e', h, -⟩; exfalso; omega)) (Nat.lt_succ_self _)
set_option maxHeartbeats 4000000 in
theorem ok_X6_hasEqualNodes {V : VV} (ho9 : RO V 15) : Ok NC yX6_hasEqualNodes cX6_hasEqualNodes 3 (some .boolean) 1 21 [vA 38, vA 15] V (pI (fun x9 V' => x9 = (if anyR (V 15 6) (fun a => bt 64 (V 41 a) a.toNat) = true then 1 else 0) ∧ V' = V)) := by
  refine Ok.intro (by decide +kernel) (Nat.le_of_ble_eq_true rfl) (fun X G hX hG hR hoa hoV => ?_)
  show J X G 0 [vA 38, vA 15, vU] [] V
  have hb9 := ho9.b
  refine j_iconst hX dX6_hasEqualNodes_0 ⟨by decide, by decide⟩ ?_
  refine j_is2 hX dX6_hasEqualNodes_1 rfl ?_
  have lp_2 : ∀ (f9 : Nat) (i : Int), (0 ≤ i ∧ i ≤ V 15 6) → (anyR i (fun a => bt 64 (V 41 a) a.toNat) = false) → ((V 15 6 - i).toNat) < f9 → J X G 2 [vA 38, vA 15, vI i] [] V := by
    intro f9
    induction f9 with
    | zero => intro i _ _ hm; exact absurd hm (Nat.not_lt_zero _)
    | succ f9 ih_2 =>
      intro i hi hn hm
      refine j_il2 hX dX6_hasEqualNodes_2 ?_
      refine j_al1 hX dX6_hasEqualNodes_3 rfl ?_
      refine j_getI hX hG fl_X6_70 (Or.inl rfl) (by decide) dX6_hasEqualNodes_4 ?_
      refine j_icmp_ge (tgt := 35) hX dX6_hasEqualNodes_7 (by decide) (fun h_7 => ?_) (fun h_7 => ?_)
      · skip
        refine j_iconst hX dX6_hasEqualNodes_35 ⟨by decide, by decide⟩ ?_
        exact j_retZ hR dX6_hasEqualNodes_36 (by omega) ⟨by rw [show i = V 15 6 by omega] at hn; rw [if_neg (by rw [hn]; decide)], rfl⟩
      · skip
        refine j_al0 hX dX6_hasEqualNodes_10 rfl ?_
        refine j_getR (q := 41) hX hG fl_X6_18 rfl rfl (by decide) dX6_hasEqualNodes_11 ?_
        refine j_il2 hX dX6_hasEqualNodes_14 ?_
        refine j_pSL2 hX hG lk_X6_91 (ok_X11_bitsAt_in (n := 36) (by decide) (by first | assumption | decide) (by first | assumption | omega | decide)) (Nat.le_of_ble_eq_true rfl) (Nat.le_of_ble_eq_true rfl) (Nat.le_of_ble_eq_true rfl) rfl dX6_hasEqualNodes_15 ?_
        refine j_rngL fun hrw => ?_
        refine j_il2 hX dX6_hasEqualNodes_18 ?_
        refine j_lshr hX dX6_hasEqualNodes_19 (by omega) ?_
        refine j_lconst (x := 1) hX dX6_hasEqualNodes_20 rfl ⟨by decide, by decide⟩ ?_
        refine j_land hX dX6_hasEqualNodes_21 ?_
        refine j_lconst (x := 0) hX dX6_hasEqualNodes_22 rfl ⟨by decide, by decide⟩ ?_
        refine j_lcmp_eq (tgt := 29) hX dX6_hasEqualNodes_23 dX6_hasEqualNodes_24 (by decide) (fun h_24 => ?_) (fun h_24 => ?_)
        · skip
          refine j_inc2 hX dX6_hasEqualNodes_29 rfl (by omega) ?_
          refine j_goto (tgt := 2) hX dX6_hasEqualNodes_32 (by decide) ?_
          exact ih_2 _ (by omega) (by rw [anyR_S hi.1, hn, Bool.false_or]; cases e : bt 64 (V 41 i) i.toNat with | false => rfl | true => rw [has64 hrw (by omega), e] at h_24; cases h_24) (by omega)
        · skip
          refine j_iconst hX dX6_hasEqualNodes_27 ⟨by decide, by decide⟩ ?_
          exact j_retZ hR dX6_hasEqualNodes_28 (by omega) ⟨by rw [if_pos (anyR_t.mpr ⟨i, hi.1, by omega, by cases e : bt 64 (V 41 i) i.toNat with | true => rfl | false => rw [has64 hrw (by omega), e] at h_24; exact absurd rfl h_24⟩)], rfl⟩
  exact lp_2 _ _ (by omega) rfl (Nat.lt_succ_self _)
set_option maxHeartbeats 4000000 in
theorem ok_X6_hasFresh {V : VV} (ho9 : RO V 15) : Ok NC yX6_hasFresh cX6_hasFresh 6 (some .boolean) 1 23 [vA 38, vA 15] V (pI (fun x9 V' => x9 = (if anyR (V 15 6) (fun a => (band 64 (V 41 a) (bxor 64 (V 39 a) (-1))) != 0) = true then 1 else 0) ∧ (∀ a, 0 ≤ a → a < V 15 6 → V' 40 a = (band 64 (V 41 a) (bxor 64 (V 39 a) (-1))) ∧ V' 39 a = bor 64 (V 39 a) (band 64 (V 41 a) (bxor 64 (V 39 a) (-1)))) ∧ (∀ a, a < 0 ∨ V 15 6 ≤ a → V' 39 a = V 39 a) ∧ fr [39, 40] V V')) := by
  refine Ok.intro (by decide +kernel) (Nat.le_of_ble_eq_true rfl) (fun X G hX hG hR hoa hoV => ?_)
  show J X G 0 [vA 38, vA 15, vU, vU, vU, vU] [] V
  have hb9 := ho9.b
  refine j_iconst hX dX6_hasFresh_0 ⟨by decide, by decide⟩ ?_
  refine j_is2 hX dX6_hasFresh_1 rfl ?_
  refine j_iconst hX dX6_hasFresh_2 ⟨by decide, by decide⟩ ?_
  refine j_is3 hX dX6_hasFresh_3 rfl ?_
  have lp_4 : ∀ (f9 : Nat) (c i : Int) (W : VV), (0 ≤ i ∧ i ≤ V 15 6) → (c = (if anyR i (fun a => (band 64 (V 41 a) (bxor 64 (V 39 a) (-1))) != 0) = true then 1 else 0)) → (∀ a, 0 ≤ a → a < i → W 40 a = (band 64 (V 41 a) (bxor 64 (V 39 a) (-1))) ∧ W 39 a = bor 64 (V 39 a) (band 64 (V 41 a) (bxor 64 (V 39 a) (-1)))) → (∀ a, a < 0 ∨ i ≤ a → W 39 a = V 39 a) → (fr [39, 40] V W) → ((V 15 6 - i).toNat) < f9 → J X G 4 [vA 38, vA 15, vI c, vI i, vU, vU] [] W := by
    intro f9
    induction f9 with
    | zero => intro c i W _ _ _ _ _ hm; exact absurd hm (Nat.not_lt_zero _)
    | succ f9 ih_4 =>
      intro c i W hi hc hr hn hs hm
      refine j_il3 hX dX6_hasFresh_4 ?_
      refine j_al1 hX dX6_hasFresh_5 rfl ?_
      refine j_getI hX hG fl_X6_70 (Or.inl rfl) (by decide) dX6_hasFresh_6 ?_
      refine j_icmp_ge (tgt := 87) hX dX6_hasFresh_9 (by decide) (fun h_9 => ?_) (fun h_9 => ?_)
      · skip
        refine j_il2 hX dX6_hasFresh_87 ?_
        exact j_retZ hR dX6_hasFresh_88 (by rw [hc]; split; exact Or.inr rfl; exact Or.inl rfl) (by have hie : i = V 15 6 := (by have := hs 15 6 (by decide); omega); subst hie; exact ⟨hc, hr, hn, hs⟩)
      · skip
        have q6 : W 15 6 = V 15 6 := hs 15 6 (by decide)
        have q41 : W 41 i = V 41 i := hs 41 i (by decide)
        have q39 : W 39 i = V 39 i := hn i (by omega)
        have qa : band 64 (W 41 i) (bxor 64 (W 39 i) (-1)) = band 64 (V 41 i) (bxor 64 (V 39 i) (-1)) := by rw [q41, q39]
        refine j_al0 hX dX6_hasFresh_12 rfl ?_
        refine j_getR (q := 41) hX hG fl_X6_18 rfl rfl (by decide) dX6_hasFresh_13 ?_
        refine j_il3 hX dX6_hasFresh_16 ?_
        refine j_pSL2 hX hG lk_X6_91 (ok_X11_bitsAt_in (n := 36) (by decide) (by first | assumption | decide) (by first | assumption | omega | decide)) (Nat.le_of_ble_eq_true rfl) (Nat.le_of_ble_eq_true rfl) (Nat.le_of_ble_eq_true rfl) rfl dX6_hasFresh_17 ?_
        refine j_al0 hX dX6_hasFresh_20 rfl ?_
        refine j_getR (q := 39) hX hG fl_X6_9 rfl rfl (by decide) dX6_hasFresh_21 ?_
        refine j_il3 hX dX6_hasFresh_24 ?_
        refine j_pSL2 hX hG lk_X6_91 (ok_X11_bitsAt_in (n := 36) (by decide) (by first | assumption | decide) (by first | assumption | omega | decide)) (Nat.le_of_ble_eq_true rfl) (Nat.le_of_ble_eq_true rfl) (Nat.le_of_ble_eq_true rfl) rfl dX6_hasFresh_25 ?_
        refine j_ldc2 (x := (-1)) hX dX6_hasFresh_28 lc_X6_95 ⟨by decide, by decide⟩ ?_
        refine j_lxor hX dX6_hasFresh_31 ?_
        refine j_land hX dX6_hasFresh_32 ?_
        refine j_ls4 hX dX6_hasFresh_33 rfl ?_
        refine j_al0 hX dX6_hasFresh_35 rfl ?_
        refine j_getR (q := 40) hX hG fl_X6_15 rfl rfl (by decide) dX6_hasFresh_36 ?_
        refine j_il3 hX dX6_hasFresh_39 ?_
        refine j_ll4 hX dX6_hasFresh_40 ?_
        refine j_cSV3 hX hG lk_X6_97 (ok_X11_putBits_in (n := 36) (by decide) (by first | assumption | decide) (by first | assumption | omega | decide)) (Nat.le_of_ble_eq_true rfl) (Nat.le_of_ble_eq_true rfl) (Nat.le_of_ble_eq_true rfl) rfl dX6_hasFresh_42 (fun V_42 h_42 => ?_)
        subst h_42
        refine j_al0 hX dX6_hasFresh_45 rfl ?_
        refine j_getR (q := 39) hX hG fl_X6_9 rfl rfl (by decide) dX6_hasFresh_46 ?_
        refine j_il3 hX dX6_hasFresh_49 ?_
        refine j_al0 hX dX6_hasFresh_50 rfl ?_
        refine j_getR (q := 39) hX hG fl_X6_9 rfl rfl (by decide) dX6_hasFresh_51 ?_
        refine j_il3 hX dX6_hasFresh_54 ?_
        refine j_pSL2 hX hG lk_X6_91 (ok_X11_bitsAt_in (n := 36) (by decide) (by first | assumption | decide) (by first | assumption | omega | decide)) (Nat.le_of_ble_eq_true rfl) (Nat.le_of_ble_eq_true rfl) (Nat.le_of_ble_eq_true rfl) rfl dX6_hasFresh_55 ?_
        refine j_ll4 hX dX6_hasFresh_58 ?_
        refine j_lor hX dX6_hasFresh_60 ?_
        refine j_cSV3 hX hG lk_X6_97 (ok_X11_putBits_in (n := 36) (by decide) (by first | assumption | decide) (by first | assumption | omega | decide)) (Nat.le_of_ble_eq_true rfl) (Nat.le_of_ble_eq_true rfl) (Nat.le_of_ble_eq_true rfl) rfl dX6_hasFresh_61 (fun V_61 h_61 => ?_)
        subst h_61
        refine j_il2 hX dX6_hasFresh_64 ?_
        refine j_if_ne (tgt := 75) hX dX6_hasFresh_65 (by decide) (fun h_65 => ?_) (fun h_65 => ?_)
        · skip
          refine j_iconst hX dX6_hasFresh_75 ⟨by decide, by decide⟩ ?_
          refine j_goto (tgt := 80) hX dX6_hasFresh_76 (by decide) ?_
          refine j_is2 hX dX6_hasFresh_80 rfl ?_
          refine j_inc3 hX dX6_hasFresh_81 rfl (by omega) ?_
          refine j_goto (tgt := 4) hX dX6_hasFresh_84 (by decide) ?_
          refine j_fg4 ?_
          exact ih_4 _ _ _ (by omega) (by rw [anyR_S hi.1]; first | (rw [if_pos h_65] at *; done) | (by_cases z : anyR i (fun a => band 64 (V 41 a) (bxor 64 (V 39 a) (-1)) != 0) = true; (rw [if_pos z] at hc; first | omega | (rw [z, Bool.true_or]; rfl)); rw [show anyR i (fun a => band 64 (V 41 a) (bxor 64 (V 39 a) (-1)) != 0) = false by simpa using z, Bool.false_or]; rw [qa] at h_72; simp only [bne_iff_ne, ne_eq]; first | (rw [if_pos h_72]; done) | (rw [if_neg (by simpa using h_72)]; done)) | (by_cases z : anyR i (fun a => band 64 (V 41 a) (bxor 64 (V 39 a) (-1)) != 0) = true; (rw [z, Bool.true_or]; rfl); rw [if_neg z] at hc; omega)) (fun a h0 h1 => by by_cases e : a = i; (subst e; exact ⟨by rw [up_n _ (by omega), up_s, qa], by rw [up_s, up_n _ (by omega), q39, q41]⟩); have := hr a h0 (by omega); exact ⟨by rw [up_n _ (by omega), up_n _ (by omega)]; exact this.1, by rw [up_n _ (by omega), up_n _ (by omega)]; exact this.2⟩) (fun a ha => by rw [up_n _ (by omega), up_n _ (by omega)]; exact hn a (by omega)) (fr_u (fr_u hs (by decide)) (by decide)) (by omega)
        · skip
          refine j_ll4 hX dX6_hasFresh_68 ?_
          refine j_lconst (x := 0) hX dX6_hasFresh_70 rfl ⟨by decide, by decide⟩ ?_
          refine j_lcmp_eq (tgt := 79) hX dX6_hasFresh_71 dX6_hasFresh_72 (by decide) (fun h_72 => ?_) (fun h_72 => ?_)
          · skip
            refine j_iconst hX dX6_hasFresh_79 ⟨by decide, by decide⟩ ?_
            refine j_is2 hX dX6_hasFresh_80 rfl ?_
            refine j_inc3 hX dX6_hasFresh_81 rfl (by omega) ?_
            refine j_goto (tgt := 4) hX dX6_hasFresh_84 (by decide) ?_
            refine j_fg4 ?_
            exact ih_4 _ _ _ (by omega) (by rw [anyR_S hi.1]; first | (rw [if_pos h_65] at *; done) | (by_cases z : anyR i (fun a => band 64 (V 41 a) (bxor 64 (V 39 a) (-1)) != 0) = true; (rw [if_pos z] at hc; first | omega | (rw [z, Bool.true_or]; rfl)); rw [show anyR i (fun a => band 64 (V 41 a) (bxor 64 (V 39 a) (-1)) != 0) = false by simpa using z, Bool.false_or]; rw [qa] at h_72; simp only [bne_iff_ne, ne_eq]; first | (rw [if_pos h_72]; done) | (rw [if_neg (by simpa using h_72)]; done)) | (by_cases z : anyR i (fun a => band 64 (V 41 a) (bxor 64 (V 39 a) (-1)) != 0) = true; (rw [z, Bool.true_or]; rfl); rw [if_neg z] at hc; omega)) (fun a h0 h1 => by by_cases e : a = i; (subst e; exact ⟨by rw [up_n _ (by omega), up_s, qa], by rw [up_s, up_n _ (by omega), q39, q41]⟩); have := hr a h0 (by omega); exact ⟨by rw [up_n _ (by omega), up_n _ (by omega)]; exact this.1, by rw [up_n _ (by omega), up_n _ (by omega)]; exact this.2⟩) (fun a ha => by rw [up_n _ (by omega), up_n _ (by omega)]; exact hn a (by omega)) (fr_u (fr_u hs (by decide)) (by decide)) (by omega)
          · skip
            refine j_iconst hX dX6_hasFresh_75 ⟨by decide, by decide⟩ ?_
            refine j_goto (tgt := 80) hX dX6_hasFresh_76 (by decide) ?_
            refine j_is2 hX dX6_hasFresh_80 rfl ?_
            refine j_inc3 hX dX6_hasFresh_81 rfl (by omega) ?_
            refine j_goto (tgt := 4) hX dX6_hasFresh_84 (by decide) ?_
            refine j_fg4 ?_
            exact ih_4 _ _ _ (by omega) (by rw [anyR_S hi.1]; first | (rw [if_pos h_65] at *; done) | (by_cases z : anyR i (fun a => band 64 (V 41 a) (bxor 64 (V 39 a) (-1)) != 0) = true; (rw [if_pos z] at hc; first | omega | (rw [z, Bool.true_or]; rfl)); rw [show anyR i (fun a => band 64 (V 41 a) (bxor 64 (V 39 a) (-1)) != 0) = false by simpa using z, Bool.false_or]; rw [qa] at h_72; simp only [bne_iff_ne, ne_eq]; first | (rw [if_pos h_72]; done) | (rw [if_neg (by simpa using h_72)]; done)) | (by_cases z : anyR i (fun a => band 64 (V 41 a) (bxor 64 (V 39 a) (-1)) != 0) = true; (rw [z, Bool.true_or]; rfl); rw [if_neg z] at hc; omega)) (fun a h0 h1 => by by_cases e : a = i; (subst e; exact ⟨by rw [up_n _ (by omega), up_s, qa], by rw [up_s, up_n _ (by omega), q39, q41]⟩); have := hr a h0 (by omega); exact ⟨by rw [up_n _ (by omega), up_n _ (by omega)]; exact this.1, by rw [up_n _ (by omega), up_n _ (by omega)]; exact this.2⟩) (fun a ha => by rw [up_n _ (by omega), up_n _ (by omega)]; exact hn a (by omega)) (fr_u (fr_u hs (by decide)) (by decide)) (by omega)
  exact lp_4 _ _ _ _ (by omega) rfl (by omega) (fun _ _ => rfl) fr_0 (Nat.lt_succ_self _)
set_option maxHeartbeats 4000000 in
theorem ok_X6_allAfter {V : VV} {l s : Int} (ho9 : RO V 15) (hl : 0 ≤ l ∧ l < 6) : Ok NC yX6_allAfter cX6_allAfter 8 (some .long) 2 43 [vA 38, vA 15, vI l, vL s] V (pL (fun x9 V' => V' = V ∧ ∀ b : Nat, b < 64 → (bt 64 x9 b = true ↔ (∃ d : Int, 0 ≤ d ∧ d < V 15 6 ∧ bt 64 s d.toNat = true ∧ bt 64 (V 17 (l * 36 + d)) b = true)))) := by
  refine Ok.intro (by decide +kernel) (Nat.le_of_ble_eq_true rfl) (fun X G hX hG hR hoa hoV => ?_)
  show J X G 0 [vA 38, vA 15, vI l, vL s, vU, vU, vU, vU] [] V
  have hb9 := ho9.b
  refine j_lconst (x := 0) hX dX6_allAfter_0 rfl ⟨by decide, by decide⟩ ?_
  refine j_ls5 hX dX6_allAfter_1 rfl ?_
  refine j_iconst hX dX6_allAfter_3 ⟨by decide, by decide⟩ ?_
  refine j_is7 hX dX6_allAfter_4 rfl ?_
  have lp_6 : ∀ (f9 : Nat) (c i : Int), (0 ≤ i ∧ i ≤ V 15 6) → (∀ b : Nat, b < 64 → (bt 64 c b = true ↔ (∃ d : Int, 0 ≤ d ∧ d < i ∧ bt 64 s d.toNat = true ∧ bt 64 (V 17 (l * 36 + d)) b = true))) → ((V 15 6 - i).toNat) < f9 → J X G 6 [vA 38, vA 15, vI l, vL s, vU, vL c, vU, vI i] [] V := by
    intro f9
    induction f9 with
    | zero => intro c i _ _ hm; exact absurd hm (Nat.not_lt_zero _)
    | succ f9 ih_6 =>
      intro c i hi hc hm
      refine j_il7 hX dX6_allAfter_6 ?_
      refine j_al1 hX dX6_allAfter_8 rfl ?_
      refine j_getI hX hG fl_X6_70 (Or.inl rfl) (by decide) dX6_allAfter_9 ?_
      refine j_icmp_ge (tgt := 53) hX dX6_allAfter_12 (by decide) (fun h_12 => ?_) (fun h_12 => ?_)
      · skip
        refine j_ll5 hX dX6_allAfter_53 ?_
        exact j_retL hR dX6_allAfter_55 (by refine ⟨rfl, fun b hb => ?_⟩; rw [hc b hb]; constructor; (rintro ⟨d, h0, h1, h2⟩; exact ⟨d, h0, by omega, h2⟩); (rintro ⟨d, h0, h1, h2, h3⟩; refine ⟨d, h0, ?_, h2, h3⟩; first | omega | (by_cases e : d < i; exact e; exfalso; have hz := ediv0 h_21; rw [bt_lt hz.1 hz.2 (by omega) (by omega)] at h2; cases h2)))
      · skip
        refine j_ll3 hX dX6_allAfter_15 ?_
        refine j_rngL fun hrs => ?_
        refine j_il7 hX dX6_allAfter_16 ?_
        refine j_lshr hX dX6_allAfter_18 (by omega) ?_
        refine j_lconst (x := 0) hX dX6_allAfter_19 rfl ⟨by decide, by decide⟩ ?_
        refine j_lcmp_eq (tgt := 53) hX dX6_allAfter_20 dX6_allAfter_21 (by decide) (fun h_21 => ?_) (fun h_21 => ?_)
        · skip
          refine j_ll5 hX dX6_allAfter_53 ?_
          exact j_retL hR dX6_allAfter_55 (by refine ⟨rfl, fun b hb => ?_⟩; rw [hc b hb]; constructor; (rintro ⟨d, h0, h1, h2⟩; exact ⟨d, h0, by omega, h2⟩); (rintro ⟨d, h0, h1, h2, h3⟩; refine ⟨d, h0, ?_, h2, h3⟩; first | omega | (by_cases e : d < i; exact e; exfalso; have hz := ediv0 h_21; rw [bt_lt hz.1 hz.2 (by omega) (by omega)] at h2; cases h2)))
        · skip
          refine j_ll3 hX dX6_allAfter_24 ?_
          refine j_il7 hX dX6_allAfter_25 ?_
          refine j_lshr hX dX6_allAfter_27 (by omega) ?_
          refine j_lconst (x := 1) hX dX6_allAfter_28 rfl ⟨by decide, by decide⟩ ?_
          refine j_land hX dX6_allAfter_29 ?_
          refine j_lconst (x := 0) hX dX6_allAfter_30 rfl ⟨by decide, by decide⟩ ?_
          refine j_lcmp_eq (tgt := 47) hX dX6_allAfter_31 dX6_allAfter_32 (by decide) (fun h_32 => ?_) (fun h_32 => ?_)
          · skip
            refine j_inc7 hX dX6_allAfter_47 rfl (by omega) ?_
            refine j_goto (tgt := 6) hX dX6_allAfter_50 (by decide) ?_
            exact ih_6 _ _ (by omega) (fun b hb => by first | (rw [has64 hrs (by omega)] at h_32; have hf : bt 64 s i.toNat = false := (by cases e : bt 64 s i.toNat with | false => rfl | true => rw [e] at h_32; cases h_32); rw [hc b hb]; constructor; (rintro ⟨d, h0, h1, h2⟩; exact ⟨d, h0, by omega, h2⟩); (rintro ⟨d, h0, h1, h2, h3⟩; refine ⟨d, h0, ?_, h2, h3⟩; by_cases e : d = i; (subst e; rw [hf] at h2; cases h2); omega)) | (rw [has64 hrs (by omega)] at h_32; have hf : bt 64 s i.toNat = true := (by cases e : bt 64 s i.toNat with | true => rfl | false => rw [e] at h_32; exact absurd rfl h_32); rw [bt_or, Bool.or_eq_true, hc b hb]; constructor; (rintro (⟨d, h0, h1, h2⟩ | h2); (exact ⟨d, h0, by omega, h2⟩); exact ⟨i, hi.1, by omega, hf, h2⟩); (rintro ⟨d, h0, h1, h2, h3⟩; by_cases e : d = i; (subst e; exact Or.inr h3); exact Or.inl ⟨d, h0, by omega, h2, h3⟩))) (by omega)
          · skip
            refine j_ll5 hX dX6_allAfter_35 ?_
            refine j_al1 hX dX6_allAfter_37 rfl ?_
            refine j_il2 hX dX6_allAfter_38 ?_
            refine j_il7 hX dX6_allAfter_39 ?_
            refine j_pVL2 (ci := 8) hX hG lk_X6_87 (ok_X8_after (Or.inr (Or.inl rfl)) (by first | assumption | omega | decide) (by first | assumption | omega | decide)) (by decide) rfl (Nat.le_of_ble_eq_true rfl) (Nat.le_of_ble_eq_true rfl) (Nat.le_of_ble_eq_true rfl) rfl dX6_allAfter_41 ?_
            try dsimp only [Int.reduceAdd]
            refine j_lor hX dX6_allAfter_44 ?_
            refine j_ls5 hX dX6_allAfter_45 rfl ?_
            refine j_inc7 hX dX6_allAfter_47 rfl (by omega) ?_
            refine j_goto (tgt := 6) hX dX6_allAfter_50 (by decide) ?_
            exact ih_6 _ _ (by omega) (fun b hb => by first | (rw [has64 hrs (by omega)] at h_32; have hf : bt 64 s i.toNat = false := (by cases e : bt 64 s i.toNat with | false => rfl | true => rw [e] at h_32; cases h_32); rw [hc b hb]; constructor; (rintro ⟨d, h0, h1, h2⟩; exact ⟨d, h0, by omega, h2⟩); (rintro ⟨d, h0, h1, h2, h3⟩; refine ⟨d, h0, ?_, h2, h3⟩; by_cases e : d = i; (subst e; rw [hf] at h2; cases h2); omega)) | (rw [has64 hrs (by omega)] at h_32; have hf : bt 64 s i.toNat = true := (by cases e : bt 64 s i.toNat with | true => rfl | false => rw [e] at h_32; exact absurd rfl h_32); rw [bt_or, Bool.or_eq_true, hc b hb]; constructor; (rintro (⟨d, h0, h1, h2⟩ | h2); (exact ⟨d, h0, by omega, h2⟩); exact ⟨i, hi.1, by omega, hf, h2⟩); (rintro ⟨d, h0, h1, h2, h3⟩; by_cases e : d = i; (subst e; exact Or.inr h3); exact Or.inl ⟨d, h0, by omega, h2, h3⟩))) (by omega)
  exact lp_6 _ _ _ (by omega) (fun b hb => by rw [bt_0]; constructor; (intro z; cases z); (rintro ⟨d, h0, h1, -⟩; omega)) (Nat.lt_succ_self _)
set_option maxHeartbeats 4000000 in
theorem ok_X6_goOn {V : VV} (ho9 : RO V 15) (ht : TR V 15) (hl : LK V 17 (V 15 5) (V 16) (fun e => e / V 15 3) (fun e => e % V 15 6)) : Ok NC yX6_goOn cX6_goOn 6 none 3 70 [vA 38, vA 15] V (pV (fun V' => RB V' 41 36 (fun a' b' => ∃ a b, (0 ≤ a ∧ a < V 15 6) ∧ (0 ≤ b ∧ b < V 15 6) ∧ bt 64 (V 40 a) b.toNat = true ∧ pst (V 16) (V 15 3) (V 15 6) (V 15 5) a b a' b') ∧ fr [41] V V')) := by
  refine Ok.intro (by decide +kernel) (Nat.le_of_ble_eq_true rfl) (fun X G hX hG hR hoa hoV => ?_)
  show J X G 0 [vA 38, vA 15, vU, vU, vU, vU] [] V
  have hb9 := ho9.b
  refine j_al0 hX dX6_goOn_0 rfl ?_
  refine j_getR (q := 41) hX hG fl_X6_18 rfl rfl (by decide) dX6_goOn_1 ?_
  refine j_lconst (x := 0) hX dX6_goOn_4 rfl ⟨by decide, by decide⟩ ?_
  refine j_cSV2 hX hG lk_X6_48 (ok_J7_fill_d0a16 (n := 36) (by decide) (by first | assumption | decide)) (Nat.le_of_ble_eq_true rfl) (Nat.le_of_ble_eq_true rfl) (Nat.le_of_ble_eq_true rfl) rfl dX6_goOn_5 (fun V_5 h_5 => ?_)
  subst h_5
  refine j_iconst hX dX6_goOn_8 ⟨by decide, by decide⟩ ?_
  refine j_is2 hX dX6_goOn_9 rfl ?_
  have lp_10 : ∀ (f9 : Nat) (i : Int) (W : VV), (0 ≤ i ∧ i ≤ V 15 5) → (fr [41] V W) → (RB W 41 36 (fun a b => ∃ e, (0 ≤ e ∧ e < i) ∧ e % V 15 6 = a ∧ ∃ d : Int, 0 ≤ d ∧ d < V 15 6 ∧ bt 64 (V 40 (e / V 15 3)) d.toNat = true ∧ bt 64 (V 17 (V 16 e * 36 + d)) b.toNat = true)) → ((V 15 5 - i).toNat) < f9 → J X G 10 [vA 38, vA 15, vI i, vU, vU, vU] [] W := by
    intro f9
    induction f9 with
    | zero => intro i W _ _ _ hm; exact absurd hm (Nat.not_lt_zero _)
    | succ f9 ih_10 =>
      intro i W hi hs hB hm
      refine j_il2 hX dX6_goOn_10 ?_
      refine j_al1 hX dX6_goOn_11 rfl ?_
      refine j_getI hX hG fl_X6_67 (Or.inl rfl) (by decide) dX6_goOn_12 ?_
      refine j_icmp_ge (tgt := 80) hX dX6_goOn_15 (by decide) (fun h_15 => ?_) (fun h_15 => ?_)
      · skip
        exact j_ret hR dX6_goOn_80 ⟨RB_i hB (fun a' b' h0 h1 h2 h3 => by have hie : i = V 15 5 := (by have := hs 15 5 (by decide); omega); subst hie; constructor; (rintro ⟨a, b, ha, hb, h4, e, e', h5, h6, h7, h8, h9, h10, h11⟩; have ht8 := ht e' h6.1 h6.2; refine ⟨e, h5, h10, b, hb.1, hb.2, by rw [h8]; exact h4, ?_⟩; rw [h7]; exact (hl _ b ht8.1 (by omega) hb.1 (by omega) b'.toNat (by omega)).mpr ⟨e', h6.1, h6.2, rfl, h9, by show e' % V 15 6 = _; omega⟩); (rintro ⟨e, h5, h10, d, hd0, hd1, h4, h6⟩; have ht8 := ht e h5.1 h5.2; obtain ⟨e', k0, k1, k2, k3, k4⟩ := (hl _ d ht8.1 (by omega) hd0 (by omega) b'.toNat (by omega)).mp h6; exact ⟨e / V 15 3, d, nd_div6 ho9 h5.1 h5.2, ⟨hd0, hd1⟩, h4, e, e', h5, ⟨k0, k1⟩, k2.symm, rfl, k3, h10, by rw [show e' % V 15 6 = _ from k4]; omega⟩)), hs⟩
      · skip
        have q5 : W 15 5 = V 15 5 := hs 15 5 (by decide)
        have q3 : W 15 3 = V 15 3 := hs 15 3 (by decide)
        have q6 : W 15 6 = V 15 6 := hs 15 6 (by decide)
        have q16 : ∀ b, W 16 b = V 16 b := fun b => hs 16 b (by decide)
        have q17 : ∀ b, W 17 b = V 17 b := fun b => hs 17 b (by decide)
        have q40 : ∀ b, W 40 b = V 40 b := fun b => hs 40 b (by decide)
        have hti : 0 ≤ V 16 i ∧ V 16 i < V 15 3 := ht i hi.1 (by omega)
        have hf9 := nd_div6 ho9 hi.1 (show i < V 15 5 by omega)
        have ht9 := md_b i (n := V 15 6) (by omega)
        refine j_al0 hX dX6_goOn_18 rfl ?_
        refine j_getR (q := 40) hX hG fl_X6_15 rfl rfl (by decide) dX6_goOn_19 ?_
        refine j_il2 hX dX6_goOn_22 ?_
        refine j_al1 hX dX6_goOn_23 rfl ?_
        refine j_getI hX hG fl_X6_81 (Or.inl rfl) (by decide) dX6_goOn_24 ?_
        refine j_pSI2 hX hG lk_X6_84 (ok_X11_quotient_in (by first | assumption | omega | decide) (by first | assumption | omega | decide)) (Nat.le_of_ble_eq_true rfl) (Nat.le_of_ble_eq_true rfl) (Nat.le_of_ble_eq_true rfl) rfl dX6_goOn_27 ?_
        refine j_pSL2 hX hG lk_X6_91 (ok_X11_bitsAt_in (n := 36) (by decide) (by first | assumption | decide) (by rw [q3]; omega)) (Nat.le_of_ble_eq_true rfl) (Nat.le_of_ble_eq_true rfl) (Nat.le_of_ble_eq_true rfl) rfl dX6_goOn_30 ?_
        refine j_ls3 hX dX6_goOn_33 rfl ?_
        refine j_il2 hX dX6_goOn_34 ?_
        refine j_al1 hX dX6_goOn_35 rfl ?_
        refine j_getI hX hG fl_X6_70 (Or.inl rfl) (by decide) dX6_goOn_36 ?_
        refine j_pSI2 hX hG lk_X6_73 (ok_X11_remainder_in (by first | assumption | omega | decide) (by first | assumption | omega | decide)) (Nat.le_of_ble_eq_true rfl) (Nat.le_of_ble_eq_true rfl) (Nat.le_of_ble_eq_true rfl) rfl dX6_goOn_39 ?_
        refine j_is5 hX dX6_goOn_42 rfl ?_
        refine j_al0 hX dX6_goOn_44 rfl ?_
        refine j_getR (q := 41) hX hG fl_X6_18 rfl rfl (by decide) dX6_goOn_45 ?_
        refine j_il5 hX dX6_goOn_48 ?_
        refine j_al0 hX dX6_goOn_50 rfl ?_
        refine j_getR (q := 41) hX hG fl_X6_18 rfl rfl (by decide) dX6_goOn_51 ?_
        refine j_il5 hX dX6_goOn_54 ?_
        refine j_pSL2 hX hG lk_X6_91 (ok_X11_bitsAt_in (n := 36) (by decide) (by first | assumption | decide) (by rw [q6]; omega)) (Nat.le_of_ble_eq_true rfl) (Nat.le_of_ble_eq_true rfl) (Nat.le_of_ble_eq_true rfl) rfl dX6_goOn_56 ?_
        refine j_al0 hX dX6_goOn_59 rfl ?_
        refine j_al1 hX dX6_goOn_60 rfl ?_
        refine j_al1 hX dX6_goOn_61 rfl ?_
        refine j_il2 hX dX6_goOn_62 ?_
        refine j_pVI1 (ci := 8) hX hG lk_X6_77 (ok_X8_gives (Or.inr (Or.inl rfl)) (by first | assumption | omega | decide)) (by decide) rfl (Nat.le_of_ble_eq_true rfl) (Nat.le_of_ble_eq_true rfl) (Nat.le_of_ble_eq_true rfl) rfl dX6_goOn_63 ?_
        try dsimp only [Int.reduceAdd]
        refine j_ll3 hX dX6_goOn_66 ?_
        refine j_cVL3 (ci := 6) hX hG lk_X6_101 (ok_X6_allAfter (ho9.sm (fun b => hs 15 b (by decide))) (by show 0 ≤ W 16 i ∧ W 16 i < 6; rw [q16]; omega)) (by decide) rfl (Nat.le_of_ble_eq_true rfl) (Nat.le_of_ble_eq_true rfl) (Nat.le_of_ble_eq_true rfl) rfl dX6_goOn_67 (fun x_67 V_67 h_67 => ?_)
        obtain ⟨e_67, hx67⟩ := h_67
        subst e_67
        refine j_lor hX dX6_goOn_70 ?_
        refine j_cSV3 hX hG lk_X6_97 (ok_X11_putBits_in (n := 36) (by decide) (by first | assumption | decide) (by rw [q6]; omega)) (Nat.le_of_ble_eq_true rfl) (Nat.le_of_ble_eq_true rfl) (Nat.le_of_ble_eq_true rfl) rfl dX6_goOn_71 (fun V_71 h_71 => ?_)
        subst h_71
        refine j_inc2 hX dX6_goOn_74 rfl (by omega) ?_
        refine j_goto (tgt := 10) hX dX6_goOn_77 (by decide) ?_
        refine j_fg3 ?_
        refine j_fg5 ?_
        exact ih_10 _ _ (by omega) (fr_u hs (by decide)) (RB_up hB (fun b hb => by rw [q6, bt_or, Bool.or_eq_true, hB _ (by omega) (by omega) b hb, hx67 b hb]; simp only [q3, q6, q16, q17, q40]; constructor; (rintro (⟨e, h, h2⟩ | h2); (exact ⟨e, ⟨h.1, by omega⟩, h2⟩); exact ⟨i, ⟨hi.1, by omega⟩, rfl, h2⟩); (rintro ⟨e, h1, h2, h3⟩; by_cases ei : e = i; (subst ei; exact Or.inr h3); exact Or.inl ⟨e, ⟨h1.1, by omega⟩, h2, h3⟩)) (fun a ha b => by rw [q6] at ha; constructor; (rintro ⟨e, h1, h2, h3⟩; refine ⟨e, ⟨h1.1, ?_⟩, h2, h3⟩; by_cases ei : e = i; (subst ei; exact absurd h2.symm ha); omega); (rintro ⟨e, h1, h⟩; exact ⟨e, ⟨h1.1, by omega⟩, h⟩))) (by omega)
  exact lp_10 _ _ _ (by omega) (fr_f fr_0 (by decide)) (fun a h0 h1 b hb => by rw [fill_in _ h0 h1, bt_0]; constructor; (intro z; cases z); (rintro ⟨e, h, -⟩; exfalso; omega)) (Nat.lt_succ_self _)
