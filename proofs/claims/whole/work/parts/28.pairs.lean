/-! ways forth and back of a pair -/
def fwB (T A S : Int → Int) (g N p s : Int) : Bool := anyR g (fun x => band 64 (A (T (p * g + x) * 36 + s)) (S ((p * g + x) % N)) != 0)
def bwB (T A S : Int → Int) (g N p s : Int) : Bool := anyR g (fun x => band 64 (A (T (x * N + p) * 36 + s)) (S ((x * N + p) / g)) != 0)
theorem band_nz {x y : Int} : (band 64 x y != 0) = true ↔ ∃ b : Nat, b < 64 ∧ bt 64 x b = true ∧ bt 64 y b = true := by
  refine (bne_iff_ne.trans (bnz (x := band 64 x y) (bv64 _))).trans ?_
  constructor
  · rintro ⟨b, h, h2⟩
    rw [bt_and, Bool.and_eq_true] at h2
    exact ⟨b, h, h2⟩
  · rintro ⟨b, h, h2⟩
    exact ⟨b, h, by rw [bt_and, Bool.and_eq_true]; exact h2⟩
theorem dm_of {p g x : Int} (h : 0 ≤ x ∧ x < g) : (p * g + x) / g = p ∧ (p * g + x) % g = x := by
  have hg : 0 < g := by omega
  have h2 : (p * g + x) / g = p := by
    rw [Int.add_comm, Int.add_mul_ediv_right _ _ (by omega), Int.ediv_eq_zero_of_lt h.1 h.2, Int.zero_add]
  refine ⟨h2, ?_⟩
  rw [Int.add_comm, Int.add_mul_emod_self_right, Int.emod_eq_of_lt h.1 h.2]
theorem dm_id {e g : Int} : e / g * g + e % g = e := by rw [Int.mul_comm]; exact Int.mul_ediv_add_emod e g
theorem fw_t {V : VV} {k : Int} {T S : Int → Int} {g N n p s : Int} (hA : LK V k n T (fun e => e / g) (fun e => e % N)) (ht : ∀ e, 0 ≤ e → e < n → 0 ≤ T e ∧ T e < 6) (hg : 1 ≤ g) (hn : n = N * g) (hN : 1 ≤ N ∧ N ≤ 36) (hp : 0 ≤ p ∧ p < N) (hs : 0 ≤ s ∧ s < N) :
    fwB T (V k) S g N p s = true ↔ ∃ a' b', bt 64 (S a') b'.toNat = true ∧ pst T g N n p s a' b' := by
  unfold fwB
  rw [anyR_t]
  constructor
  · rintro ⟨x, h0, h1, h⟩
    obtain ⟨b, hb, h2, h3⟩ := band_nz.mp h
    have hw := wd_b hg hp ⟨h0, h1⟩
    rw [← hn] at hw
    have hT := ht _ hw.1 hw.2
    obtain ⟨e', k0, k1, k2, k3, k4⟩ := (hA _ s hT.1 hT.2 hs.1 (by omega) b hb).mp h2
    have hd := dm_of (p := p) ⟨h0, h1⟩
    exact ⟨(p * g + x) % N, b, by simpa using h3, p * g + x, e', hw, ⟨k0, k1⟩, k2.symm, hd.1, k3, rfl, k4⟩
  · rintro ⟨a', b', h3, e, e', h1, h2, h4, h5, h6, h7, h8⟩
    have hm := md_b e hg
    refine ⟨e % g, hm.1, hm.2, band_nz.mpr ⟨b'.toNat, ?_, ?_, ?_⟩⟩
    · have := md_b e' hN.1; omega
    · rw [← h5, dm_id]
      have hT := ht _ h1.1 h1.2
      exact (hA _ s hT.1 hT.2 hs.1 (by omega) _ (by have := md_b e' hN.1; omega)).mpr ⟨e', h2.1, h2.2, h4.symm, h6, by show e' % N = _; have := md_b e' hN.1; omega⟩
    · rw [← h5, dm_id, h7]; exact h3
theorem bw_t {V : VV} {k : Int} {T S : Int → Int} {g N n p s : Int} (hA : LK V k n T (fun e => e % N) (fun e => e / g)) (ht : ∀ e, 0 ≤ e → e < n → 0 ≤ T e ∧ T e < 6) (hg : 1 ≤ g) (hn : n = N * g) (hN : 1 ≤ N ∧ N ≤ 36) (hp : 0 ≤ p ∧ p < N) (hs : 0 ≤ s ∧ s < N) :
    bwB T (V k) S g N p s = true ↔ ∃ a' b', bt 64 (S a') b'.toNat = true ∧ pst T g N n a' b' p s := by
  unfold bwB
  rw [anyR_t]
  have nd : ∀ e, 0 ≤ e → e < n → 0 ≤ e / g ∧ e / g < N := fun e h0 h1 => ⟨Int.ediv_nonneg h0 (by omega), Int.ediv_lt_of_lt_mul (by omega) (by rw [← hn]; exact h1)⟩
  have nm : ∀ e, 0 ≤ e → e < n → 0 ≤ e / N ∧ e / N < g := fun e h0 h1 => ⟨Int.ediv_nonneg h0 (by omega), Int.ediv_lt_of_lt_mul (by omega) (by rw [Int.mul_comm, ← hn]; exact h1)⟩
  constructor
  · rintro ⟨x, h0, h1, h⟩
    obtain ⟨b, hb, h2, h3⟩ := band_nz.mp h
    have hw := wd_b (g := N) (N := g) hN.1 ⟨h0, h1⟩ hp
    rw [Int.mul_comm g N, ← hn] at hw
    have hT := ht _ hw.1 hw.2
    obtain ⟨e', k0, k1, k2, k3, k4⟩ := (hA _ s hT.1 hT.2 hs.1 (by omega) b hb).mp h2
    have hd := dm_of (p := x) (g := N) hp
    exact ⟨(x * N + p) / g, b, by simpa using h3, x * N + p, e', hw, ⟨k0, k1⟩, k2.symm, rfl, k4, hd.2, k3⟩
  · rintro ⟨a', b', h3, e, e', h1, h2, h4, h5, h6, h7, h8⟩
    have hm := nm e h1.1 h1.2
    have hb := nd e' h2.1 h2.2
    refine ⟨e / N, hm.1, hm.2, band_nz.mpr ⟨b'.toNat, by omega, ?_, ?_⟩⟩
    · rw [← h7, dm_id]
      have hT := ht _ h1.1 h1.2
      exact (hA _ s hT.1 hT.2 hs.1 (by omega) _ (by omega)).mpr ⟨e', h2.1, h2.2, h4.symm, h8, by show e' / g = _; omega⟩
    · rw [← h7, dm_id, h5]; exact h3
theorem BC_b {T : Int → Int} {g N n : Int} {B : Int → Int → Prop} (hN : 1 ≤ N) (h : BC T g N n B) {a b : Int} (hab : B a b) : (0 ≤ a ∧ a < N) ∧ 0 ≤ b ∧ b < N := by
  obtain ⟨-, a', b', -, h2⟩ := h a b hab
  exact pst_b hN h2
/-- the pairs of equal nodes have ways forth and back -/
theorem BC_d {T : Int → Int} {g N n : Int} (hg : 1 ≤ g) (hn : n = N * g) (hN : 1 ≤ N) : BC T g N n (fun a b => a = b ∧ 0 ≤ a ∧ a < N) := by
  intro a b ⟨h, h0, h1⟩
  subst h
  refine ⟨?_, ?_⟩
  · have hw := wd_b (g := g) hg ⟨h0, h1⟩ (show (0 : Int) ≤ 0 ∧ 0 < g by omega)
    rw [← hn] at hw
    have hd := dm_of (p := a) (g := g) (x := 0) ⟨by omega, by omega⟩
    have hm := md_b (a * g + 0) hN
    exact ⟨(a * g + 0) % N, (a * g + 0) % N, ⟨rfl, hm⟩, _, _, hw, hw, rfl, hd.1, hd.1, rfl, rfl⟩
  · have hw : 0 ≤ a ∧ a < n := by
      rw [hn]
      have := Int.mul_le_mul_of_nonneg_left hg (show 0 ≤ N by omega)
      omega
    refine ⟨a / g, a / g, ⟨rfl, Int.ediv_nonneg h0 (by omega), Int.ediv_lt_of_lt_mul (by omega) (by rw [← hn]; exact hw.2)⟩, a, a, hw, hw, rfl, rfl, rfl, Int.emod_eq_of_lt h0 h1, Int.emod_eq_of_lt h0 h1⟩
/-- a set's bits as a relation -/
def bS (S : Int → Int) (N : Int) : Int → Int → Prop := fun a b => (0 ≤ a ∧ a < N) ∧ (0 ≤ b ∧ b < N) ∧ bt 64 (S a) b.toNat = true
theorem LK.sm {V W : VV} {k i : Int} {lab p r : Int → Int} (h : LK V k i lab p r) (e : ∀ b, W k b = V k b) : LK W k i lab p r := fun l a h1 h2 h3 h4 b hb => by rw [e]; exact h l a h1 h2 h3 h4 b hb
theorem RO.n {V : VV} {r : Int} (h : RO V r) : V r 5 = V r 6 * V r 3 := h.2.2
theorem TR.b {V : VV} {r : Int} (h : TR V r) (ho : RO V r) : ∀ e, 0 ≤ e → e < V r 5 → 0 ≤ V (r + 1) e ∧ V (r + 1) e < 6 := fun e h0 h1 => by
  have := h e h0 h1
  have := ho.b
  omega

section DD
variable {V Z : VV} {i j d : Int}
theorem dd_b {b : Nat} (hb : b < 64) : bt 64 (band 64 (Z 39 i) (bxor 64 (1 * 2 ^ j.toNat) (-1))) b = (bt 64 (Z 39 i) b && !decide (b = j.toNat)) := by rw [bt_and, bt_m1x hb, bt_pow1 hb]
theorem ddSub (h : ∀ a, 0 ≤ a → a < 36 → ∀ b : Nat, b < 64 → bt 64 (Z 39 a) b = true → bt 64 (V 39 a) b = true) : ∀ a, 0 ≤ a → a < 36 → ∀ b : Nat, b < 64 → bt 64 ((up Z 39 i (band 64 (Z 39 i) (bxor 64 (1 * 2 ^ j.toNat) (-1)))) 39 a) b = true → bt 64 (V 39 a) b = true := fun a h0 h1 b hb hq => by
  by_cases e : a = i
  · subst e
    rw [up_s, dd_b hb, Bool.and_eq_true] at hq
    exact h a h0 h1 b hb hq.1
  · rw [up_n _ (by omega)] at hq
    exact h a h0 h1 b hb hq
theorem ddB (hj0 : 0 ≤ j) (hN : V 15 6 ≤ 36 ∧ 1 ≤ V 15 6) (h : ∀ B, BC (V 16) (V 15 3) (V 15 6) (V 15 5) B → (∀ a b, B a b → bt 64 (V 39 a) b.toNat = true) → ∀ a b, B a b → bt 64 (Z 39 a) b.toNat = true) (hn : ¬ ((∃ a' b', bt 64 (Z 39 a') b'.toNat = true ∧ pst (V 16) (V 15 3) (V 15 6) (V 15 5) i j a' b') ∧ ∃ a' b', bt 64 (Z 39 a') b'.toNat = true ∧ pst (V 16) (V 15 3) (V 15 6) (V 15 5) a' b' i j)) : ∀ B, BC (V 16) (V 15 3) (V 15 6) (V 15 5) B → (∀ a b, B a b → bt 64 (V 39 a) b.toNat = true) → ∀ a b, B a b → bt 64 ((up Z 39 i (band 64 (Z 39 i) (bxor 64 (1 * 2 ^ j.toNat) (-1)))) 39 a) b.toNat = true := fun B hB hBV a b hab => by
  have hin := BC_b hN.2 hB hab
  have h1 := h B hB hBV
  by_cases e : a = i
  · rw [e, up_s, dd_b (by omega), Bool.and_eq_true]
    refine ⟨h1 i b (e ▸ hab), ?_⟩
    rw [Bool.not_eq_true', decide_eq_false_iff_not]
    intro q
    have hbj : b = j := by omega
    rw [e, hbj] at hab
    obtain ⟨⟨a1, b1, c1, d1⟩, a2, b2, c2, d2⟩ := hB i j hab
    exact hn ⟨⟨a1, b1, h1 _ _ c1, d1⟩, a2, b2, h1 _ _ c2, d2⟩
  · rw [up_n _ (by omega)]
    exact h1 a b hab
theorem ddC (hi : 0 ≤ i) (hj : 0 ≤ j ∧ j < V 15 6) (hN : i < V 15 6 ∧ V 15 6 ≤ 36) {P : Prop} (h : (d = 0 ∧ Z = V ∧ P) ∨ (d = 1 ∧ cntP Z 39 + 1 ≤ cntP V 39)) (hb : bt 64 (Z 39 i) j.toNat = true) : cntP (up Z 39 i (band 64 (Z 39 i) (bxor 64 (1 * 2 ^ j.toNat) (-1)))) 39 + 1 ≤ cntP V 39 := by
  have h1 : cntP (up Z 39 i (band 64 (Z 39 i) (bxor 64 (1 * 2 ^ j.toNat) (-1)))) 39 + 1 ≤ cntP Z 39 := by
    refine cntP_lt (fun a h0 h1 b hb hq => ?_) hi (by omega) (show j.toNat < 36 by omega) (by rw [up_s, dd_b (by omega)]; simp) hb
    by_cases e : a = i
    · subst e
      rw [up_s, dd_b (by omega), Bool.and_eq_true] at hq
      exact hq.1
    · rw [up_n _ (by omega)] at hq
      exact hq
  rcases h with ⟨-, h, -⟩ | ⟨-, h⟩
  · rw [h] at h1 ⊢; exact h1
  · omega
theorem ddN (h : (d = 0 ∧ Z = V ∧ ∀ a b, 0 ≤ a → a < V 15 6 → 0 ≤ b → b < V 15 6 → (a < i ∨ a = i ∧ b < j) → bt 64 (V 39 a) b.toNat = true → fwB (V 16) (V 17) (V 39) (V 15 3) (V 15 6) a b = true ∧ bwB (V 16) (V 18) (V 39) (V 15 3) (V 15 6) a b = true) ∨ (d = 1 ∧ cntP Z 39 + 1 ≤ cntP V 39)) (hb : bt 64 (Z 39 i) j.toNat = false) : (d = 0 ∧ Z = V ∧ ∀ a b, 0 ≤ a → a < V 15 6 → 0 ≤ b → b < V 15 6 → (a < i ∨ a = i ∧ b < j + 1) → bt 64 (V 39 a) b.toNat = true → fwB (V 16) (V 17) (V 39) (V 15 3) (V 15 6) a b = true ∧ bwB (V 16) (V 18) (V 39) (V 15 3) (V 15 6) a b = true) ∨ (d = 1 ∧ cntP Z 39 + 1 ≤ cntP V 39) := h.elim (fun h => Or.inl ⟨h.1, h.2.1, fun a b h0 h1 h3 h4 h5 h6 => by
  by_cases e : a = i ∧ b = j
  · rw [e.1, e.2] at h6
    rw [h.2.1, h6] at hb
    cases hb
  · exact h.2.2 a b h0 h1 h3 h4 (by omega) h6⟩) Or.inr
theorem ddW (h : (d = 0 ∧ Z = V ∧ ∀ a b, 0 ≤ a → a < V 15 6 → 0 ≤ b → b < V 15 6 → (a < i ∨ a = i ∧ b < j) → bt 64 (V 39 a) b.toNat = true → fwB (V 16) (V 17) (V 39) (V 15 3) (V 15 6) a b = true ∧ bwB (V 16) (V 18) (V 39) (V 15 3) (V 15 6) a b = true) ∨ (d = 1 ∧ cntP Z 39 + 1 ≤ cntP V 39)) (hf : fwB (V 16) (V 17) (Z 39) (V 15 3) (V 15 6) i j = true) (hw : bwB (V 16) (V 18) (Z 39) (V 15 3) (V 15 6) i j = true) : (d = 0 ∧ Z = V ∧ ∀ a b, 0 ≤ a → a < V 15 6 → 0 ≤ b → b < V 15 6 → (a < i ∨ a = i ∧ b < j + 1) → bt 64 (V 39 a) b.toNat = true → fwB (V 16) (V 17) (V 39) (V 15 3) (V 15 6) a b = true ∧ bwB (V 16) (V 18) (V 39) (V 15 3) (V 15 6) a b = true) ∨ (d = 1 ∧ cntP Z 39 + 1 ≤ cntP V 39) := h.elim (fun h => Or.inl ⟨h.1, h.2.1, fun a b h0 h1 h3 h4 h5 h6 => by
  by_cases e : a = i ∧ b = j
  · rw [h.2.1] at hf hw
    rw [e.1, e.2]
    exact ⟨hf, hw⟩
  · exact h.2.2 a b h0 h1 h3 h4 (by omega) h6⟩) Or.inr
end DD
set_option maxHeartbeats 4000000 in
theorem ok_X6_hasWayForth {V : VV} {p s : Int} (ho9 : RO V 15) (ht : TR V 15) (hp : 0 ≤ p ∧ p < V 15 6) (hs0 : 0 ≤ s ∧ s < V 15 6) : Ok NC yX6_hasWayForth cX6_hasWayForth 6 (some .boolean) 2 43 [vA 38, vA 15, vI p, vI s] V (pI (fun x9 V' => x9 = (if fwB (V 16) (V 17) (V 39) (V 15 3) (V 15 6) p s = true then 1 else 0) ∧ V' = V)) := by
  refine Ok.intro (by decide +kernel) (Nat.le_of_ble_eq_true rfl) (fun X G hX hG hR hoa hoV => ?_)
  show J X G 0 [vA 38, vA 15, vI p, vI s, vU, vU] [] V
  have hb9 := ho9.b
  have h56 := ho9.n
  refine j_iconst hX dX6_hasWayForth_0 ⟨by decide, by decide⟩ ?_
  refine j_is4 hX dX6_hasWayForth_1 rfl ?_
  have lp_3 : ∀ (f9 : Nat) (x : Int), (0 ≤ x ∧ x ≤ V 15 3) → (anyR x (fun x => band 64 (V 17 (V 16 (p * V 15 3 + x) * 36 + s)) (V 39 ((p * V 15 3 + x) % V 15 6)) != 0) = false) → ((V 15 3 - x).toNat) < f9 → J X G 3 [vA 38, vA 15, vI p, vI s, vI x, vU] [] V := by
    intro f9
    induction f9 with
    | zero => intro x _ _ hm; exact absurd hm (Nat.not_lt_zero _)
    | succ f9 ih_3 =>
      intro x hx hn hm
      refine j_il4 hX dX6_hasWayForth_3 ?_
      refine j_al1 hX dX6_hasWayForth_5 rfl ?_
      refine j_getI hX hG fl_X6_81 (Or.inl rfl) (by decide) dX6_hasWayForth_6 ?_
      refine j_icmp_ge (tgt := 64) hX dX6_hasWayForth_9 (by decide) (fun h_9 => ?_) (fun h_9 => ?_)
      · skip
        refine j_iconst hX dX6_hasWayForth_64 ⟨by decide, by decide⟩ ?_
        exact j_retZ hR dX6_hasWayForth_65 (by omega) ⟨by rw [show x = V 15 3 by omega] at hn; unfold fwB; rw [if_neg (by rw [hn]; decide)], rfl⟩
      · skip
        have hw := wd_b (g := V 15 3) (by omega) hp (b := x) (by omega)
        rw [← h56] at hw
        have hw2 : 0 ≤ p * V 15 3 ∧ p * V 15 3 ≤ 216 := by have := Int.mul_nonneg hp.1 (show 0 ≤ V 15 3 by omega); omega
        have hti : 0 ≤ V 16 (p * V 15 3 + x) ∧ V 16 (p * V 15 3 + x) < V 15 3 := ht _ hw.1 hw.2
        have ht9 := md_b (p * V 15 3 + x) (n := V 15 6) (by omega)
        refine j_il2 hX dX6_hasWayForth_12 ?_
        refine j_al1 hX dX6_hasWayForth_13 rfl ?_
        refine j_getI hX hG fl_X6_81 (Or.inl rfl) (by decide) dX6_hasWayForth_14 ?_
        refine j_imul hX dX6_hasWayForth_17 (by omega) ?_
        refine j_il4 hX dX6_hasWayForth_18 ?_
        refine j_iadd hX dX6_hasWayForth_20 (by omega) ?_
        refine j_is5 hX dX6_hasWayForth_21 rfl ?_
        refine j_al1 hX dX6_hasWayForth_23 rfl ?_
        refine j_al1 hX dX6_hasWayForth_24 rfl ?_
        refine j_il5 hX dX6_hasWayForth_25 ?_
        refine j_pVI1 (ci := 8) hX hG lk_X6_77 (ok_X8_gives (Or.inr (Or.inl rfl)) (by first | assumption | omega | decide)) (by decide) rfl (Nat.le_of_ble_eq_true rfl) (Nat.le_of_ble_eq_true rfl) (Nat.le_of_ble_eq_true rfl) rfl dX6_hasWayForth_27 ?_
        try dsimp only [Int.reduceAdd]
        refine j_il3 hX dX6_hasWayForth_30 ?_
        refine j_pVL2 (ci := 8) hX hG lk_X6_87 (ok_X8_after (Or.inr (Or.inl rfl)) (by first | assumption | omega | decide) (by first | assumption | omega | decide)) (by decide) rfl (Nat.le_of_ble_eq_true rfl) (Nat.le_of_ble_eq_true rfl) (Nat.le_of_ble_eq_true rfl) rfl dX6_hasWayForth_31 ?_
        try dsimp only [Int.reduceAdd]
        refine j_al0 hX dX6_hasWayForth_34 rfl ?_
        refine j_getR (q := 39) hX hG fl_X6_9 rfl rfl (by decide) dX6_hasWayForth_35 ?_
        refine j_il5 hX dX6_hasWayForth_38 ?_
        refine j_al1 hX dX6_hasWayForth_40 rfl ?_
        refine j_getI hX hG fl_X6_70 (Or.inl rfl) (by decide) dX6_hasWayForth_41 ?_
        refine j_pSI2 hX hG lk_X6_73 (ok_X11_remainder_in (by first | assumption | omega | decide) (by first | assumption | omega | decide)) (Nat.le_of_ble_eq_true rfl) (Nat.le_of_ble_eq_true rfl) (Nat.le_of_ble_eq_true rfl) rfl dX6_hasWayForth_44 ?_
        refine j_pSL2 hX hG lk_X6_91 (ok_X11_bitsAt_in (n := 36) (by decide) (by first | assumption | decide) (by first | assumption | omega | decide)) (Nat.le_of_ble_eq_true rfl) (Nat.le_of_ble_eq_true rfl) (Nat.le_of_ble_eq_true rfl) rfl dX6_hasWayForth_47 ?_
        refine j_land hX dX6_hasWayForth_50 ?_
        refine j_lconst (x := 0) hX dX6_hasWayForth_51 rfl ⟨by decide, by decide⟩ ?_
        refine j_lcmp_eq (tgt := 58) hX dX6_hasWayForth_52 dX6_hasWayForth_53 (by decide) (fun h_53 => ?_) (fun h_53 => ?_)
        · skip
          refine j_inc4 hX dX6_hasWayForth_58 rfl (by omega) ?_
          refine j_goto (tgt := 3) hX dX6_hasWayForth_61 (by decide) ?_
          refine j_fg5 ?_
          exact ih_3 _ (by omega) (by rw [anyR_S hx.1, hn, Bool.false_or]; show (_ != _) = false; rw [bne_eq_false_iff_eq]; exact h_53) (by omega)
        · skip
          refine j_iconst hX dX6_hasWayForth_56 ⟨by decide, by decide⟩ ?_
          exact j_retZ hR dX6_hasWayForth_57 (by omega) ⟨by unfold fwB; rw [if_pos ((anyR_t (n := V 15 3) (p := (fun x => band 64 (V 17 (V 16 (p * V 15 3 + x) * 36 + s)) (V 39 ((p * V 15 3 + x) % V 15 6)) != 0))).mpr ⟨x, hx.1, by omega, bne_iff_ne.mpr h_53⟩)], rfl⟩
  exact lp_3 _ _ (by omega) rfl (Nat.lt_succ_self _)
set_option maxHeartbeats 4000000 in
theorem ok_X6_hasWayBack {V : VV} {p s : Int} (ho9 : RO V 15) (ht : TR V 15) (hp : 0 ≤ p ∧ p < V 15 6) (hs0 : 0 ≤ s ∧ s < V 15 6) : Ok NC yX6_hasWayBack cX6_hasWayBack 6 (some .boolean) 2 43 [vA 38, vA 15, vI p, vI s] V (pI (fun x9 V' => x9 = (if bwB (V 16) (V 18) (V 39) (V 15 3) (V 15 6) p s = true then 1 else 0) ∧ V' = V)) := by
  refine Ok.intro (by decide +kernel) (Nat.le_of_ble_eq_true rfl) (fun X G hX hG hR hoa hoV => ?_)
  show J X G 0 [vA 38, vA 15, vI p, vI s, vU, vU] [] V
  have hb9 := ho9.b
  have h56 := ho9.n
  refine j_iconst hX dX6_hasWayBack_0 ⟨by decide, by decide⟩ ?_
  refine j_is4 hX dX6_hasWayBack_1 rfl ?_
  have lp_3 : ∀ (f9 : Nat) (x : Int), (0 ≤ x ∧ x ≤ V 15 3) → (anyR x (fun x => band 64 (V 18 (V 16 (x * V 15 6 + p) * 36 + s)) (V 39 ((x * V 15 6 + p) / V 15 3)) != 0) = false) → ((V 15 3 - x).toNat) < f9 → J X G 3 [vA 38, vA 15, vI p, vI s, vI x, vU] [] V := by
    intro f9
    induction f9 with
    | zero => intro x _ _ hm; exact absurd hm (Nat.not_lt_zero _)
    | succ f9 ih_3 =>
      intro x hx hn hm
      refine j_il4 hX dX6_hasWayBack_3 ?_
      refine j_al1 hX dX6_hasWayBack_5 rfl ?_
      refine j_getI hX hG fl_X6_81 (Or.inl rfl) (by decide) dX6_hasWayBack_6 ?_
      refine j_icmp_ge (tgt := 64) hX dX6_hasWayBack_9 (by decide) (fun h_9 => ?_) (fun h_9 => ?_)
      · skip
        refine j_iconst hX dX6_hasWayBack_64 ⟨by decide, by decide⟩ ?_
        exact j_retZ hR dX6_hasWayBack_65 (by omega) ⟨by rw [show x = V 15 3 by omega] at hn; unfold bwB; rw [if_neg (by rw [hn]; decide)], rfl⟩
      · skip
        have hw := wd_b (g := V 15 6) (N := V 15 3) (a := x) (by omega) (by omega) hp
        rw [Int.mul_comm (V 15 3), ← h56] at hw
        have hw2 : 0 ≤ x * V 15 6 ∧ x * V 15 6 ≤ 216 := by have := Int.mul_nonneg hx.1 (show 0 ≤ V 15 6 by omega); omega
        have hti : 0 ≤ V 16 (x * V 15 6 + p) ∧ V 16 (x * V 15 6 + p) < V 15 3 := ht _ hw.1 hw.2
        have ht9 := nd_div6 ho9 hw.1 hw.2
        refine j_il4 hX dX6_hasWayBack_12 ?_
        refine j_al1 hX dX6_hasWayBack_14 rfl ?_
        refine j_getI hX hG fl_X6_70 (Or.inl rfl) (by decide) dX6_hasWayBack_15 ?_
        refine j_imul hX dX6_hasWayBack_18 (by omega) ?_
        refine j_il2 hX dX6_hasWayBack_19 ?_
        refine j_iadd hX dX6_hasWayBack_20 (by omega) ?_
        refine j_is5 hX dX6_hasWayBack_21 rfl ?_
        refine j_al1 hX dX6_hasWayBack_23 rfl ?_
        refine j_al1 hX dX6_hasWayBack_24 rfl ?_
        refine j_il5 hX dX6_hasWayBack_25 ?_
        refine j_pVI1 (ci := 8) hX hG lk_X6_77 (ok_X8_gives (Or.inr (Or.inl rfl)) (by first | assumption | omega | decide)) (by decide) rfl (Nat.le_of_ble_eq_true rfl) (Nat.le_of_ble_eq_true rfl) (Nat.le_of_ble_eq_true rfl) rfl dX6_hasWayBack_27 ?_
        try dsimp only [Int.reduceAdd]
        refine j_il3 hX dX6_hasWayBack_30 ?_
        refine j_pVL2 (ci := 8) hX hG lk_X6_115 (ok_X8_before (Or.inr (Or.inl rfl)) (by first | assumption | omega | decide) (by first | assumption | omega | decide)) (by decide) rfl (Nat.le_of_ble_eq_true rfl) (Nat.le_of_ble_eq_true rfl) (Nat.le_of_ble_eq_true rfl) rfl dX6_hasWayBack_31 ?_
        try dsimp only [Int.reduceAdd]
        refine j_al0 hX dX6_hasWayBack_34 rfl ?_
        refine j_getR (q := 39) hX hG fl_X6_9 rfl rfl (by decide) dX6_hasWayBack_35 ?_
        refine j_il5 hX dX6_hasWayBack_38 ?_
        refine j_al1 hX dX6_hasWayBack_40 rfl ?_
        refine j_getI hX hG fl_X6_81 (Or.inl rfl) (by decide) dX6_hasWayBack_41 ?_
        refine j_pSI2 hX hG lk_X6_84 (ok_X11_quotient_in (by first | assumption | omega | decide) (by first | assumption | omega | decide)) (Nat.le_of_ble_eq_true rfl) (Nat.le_of_ble_eq_true rfl) (Nat.le_of_ble_eq_true rfl) rfl dX6_hasWayBack_44 ?_
        refine j_pSL2 hX hG lk_X6_91 (ok_X11_bitsAt_in (n := 36) (by decide) (by first | assumption | decide) (by first | assumption | omega | decide)) (Nat.le_of_ble_eq_true rfl) (Nat.le_of_ble_eq_true rfl) (Nat.le_of_ble_eq_true rfl) rfl dX6_hasWayBack_47 ?_
        refine j_land hX dX6_hasWayBack_50 ?_
        refine j_lconst (x := 0) hX dX6_hasWayBack_51 rfl ⟨by decide, by decide⟩ ?_
        refine j_lcmp_eq (tgt := 58) hX dX6_hasWayBack_52 dX6_hasWayBack_53 (by decide) (fun h_53 => ?_) (fun h_53 => ?_)
        · skip
          refine j_inc4 hX dX6_hasWayBack_58 rfl (by omega) ?_
          refine j_goto (tgt := 3) hX dX6_hasWayBack_61 (by decide) ?_
          refine j_fg5 ?_
          exact ih_3 _ (by omega) (by rw [anyR_S hx.1, hn, Bool.false_or]; show (_ != _) = false; rw [bne_eq_false_iff_eq]; exact h_53) (by omega)
        · skip
          refine j_iconst hX dX6_hasWayBack_56 ⟨by decide, by decide⟩ ?_
          exact j_retZ hR dX6_hasWayBack_57 (by omega) ⟨by unfold bwB; rw [if_pos ((anyR_t (n := V 15 3) (p := (fun x => band 64 (V 18 (V 16 (x * V 15 6 + p) * 36 + s)) (V 39 ((x * V 15 6 + p) / V 15 3)) != 0))).mpr ⟨x, hx.1, by omega, bne_iff_ne.mpr h_53⟩)], rfl⟩
  exact lp_3 _ _ (by omega) rfl (Nat.lt_succ_self _)
set_option maxHeartbeats 4000000 in
theorem ok_X6_dropDeadEnds {V : VV} (ho9 : RO V 15) (ht : TR V 15) (hl : LK V 17 (V 15 5) (V 16) (fun e => e / V 15 3) (fun e => e % V 15 6)) (hl2 : LK V 18 (V 15 5) (V 16) (fun e => e % V 15 6) (fun e => e / V 15 3)) : Ok NC yX6_dropDeadEnds cX6_dropDeadEnds 6 (some .boolean) 3 68 [vA 38, vA 15] V (pI (fun x9 V' => fr [39] V V' ∧ (∀ a, 0 ≤ a → a < 36 → ∀ b : Nat, b < 64 → bt 64 (V' 39 a) b = true → bt 64 (V 39 a) b = true) ∧ (∀ B, BC (V 16) (V 15 3) (V 15 6) (V 15 5) B → (∀ a b, B a b → bt 64 (V 39 a) b.toNat = true) → ∀ a b, B a b → bt 64 (V' 39 a) b.toNat = true) ∧ ((x9 = 0 ∧ V' = V ∧ ∀ a b, 0 ≤ a → a < V 15 6 → 0 ≤ b → b < V 15 6 → (True) → bt 64 (V 39 a) b.toNat = true → fwB (V 16) (V 17) (V 39) (V 15 3) (V 15 6) a b = true ∧ bwB (V 16) (V 18) (V 39) (V 15 3) (V 15 6) a b = true) ∨ (x9 = 1 ∧ cntP V' 39 + 1 ≤ cntP V 39)))) := by
  refine Ok.intro (by decide +kernel) (Nat.le_of_ble_eq_true rfl) (fun X G hX hG hR hoa hoV => ?_)
  show J X G 0 [vA 38, vA 15, vU, vU, vU, vU] [] V
  have hb9 := ho9.b
  have h56 := ho9.n
  have htb := ht.b ho9
  refine j_iconst hX dX6_dropDeadEnds_0 ⟨by decide, by decide⟩ ?_
  refine j_is2 hX dX6_dropDeadEnds_1 rfl ?_
  refine j_iconst hX dX6_dropDeadEnds_2 ⟨by decide, by decide⟩ ?_
  refine j_is3 hX dX6_dropDeadEnds_3 rfl ?_
  have lp_4 : ∀ (f9 : Nat) (c i : Int) (W : VV), (0 ≤ i ∧ i ≤ V 15 6) → (fr [39] V W) → (∀ a, 0 ≤ a → a < 36 → ∀ b : Nat, b < 64 → bt 64 (W 39 a) b = true → bt 64 (V 39 a) b = true) → (∀ B, BC (V 16) (V 15 3) (V 15 6) (V 15 5) B → (∀ a b, B a b → bt 64 (V 39 a) b.toNat = true) → ∀ a b, B a b → bt 64 (W 39 a) b.toNat = true) → ((c = 0 ∧ W = V ∧ ∀ a b, 0 ≤ a → a < V 15 6 → 0 ≤ b → b < V 15 6 → (a < i) → bt 64 (V 39 a) b.toNat = true → fwB (V 16) (V 17) (V 39) (V 15 3) (V 15 6) a b = true ∧ bwB (V 16) (V 18) (V 39) (V 15 3) (V 15 6) a b = true) ∨ (c = 1 ∧ cntP W 39 + 1 ≤ cntP V 39)) → ((V 15 6 - i).toNat) < f9 → J X G 4 [vA 38, vA 15, vI c, vI i, vU, vU] [] W := by
    intro f9
    induction f9 with
    | zero => intro c i W _ _ _ _ _ hm; exact absurd hm (Nat.not_lt_zero _)
    | succ f9 ih_4 =>
      intro c i W hi hs hsub hB hD hm
      refine j_il3 hX dX6_dropDeadEnds_4 ?_
      refine j_al1 hX dX6_dropDeadEnds_5 rfl ?_
      refine j_getI hX hG fl_X6_70 (Or.inl rfl) (by decide) dX6_dropDeadEnds_6 ?_
      refine j_icmp_ge (tgt := 115) hX dX6_dropDeadEnds_9 (by decide) (fun h_9 => ?_) (fun h_9 => ?_)
      · skip
        refine j_il2 hX dX6_dropDeadEnds_115 ?_
        exact j_retZ hR dX6_dropDeadEnds_116 (by rcases hD with h | h; exact Or.inl h.1; exact Or.inr h.1) (by have hie : i = V 15 6 := (by have := hs 15 6 (by decide); omega); exact ⟨hs, hsub, hB, hD.elim (fun h => Or.inl ⟨h.1, h.2.1, fun a b h0 h1 h3 h4 _ => h.2.2 a b h0 h1 h3 h4 (by omega)⟩) Or.inr⟩)
      · skip
        have q6w : W 15 6 = V 15 6 := hs 15 6 (by decide)
        refine j_iconst hX dX6_dropDeadEnds_12 ⟨by decide, by decide⟩ ?_
        refine j_is4 hX dX6_dropDeadEnds_13 rfl ?_
        have lp_15 : ∀ (f9 : Nat) (d j : Int) (Z : VV), (0 ≤ j ∧ j ≤ V 15 6) → (fr [39] V Z) → (∀ a, 0 ≤ a → a < 36 → ∀ b : Nat, b < 64 → bt 64 (Z 39 a) b = true → bt 64 (V 39 a) b = true) → (∀ B, BC (V 16) (V 15 3) (V 15 6) (V 15 5) B → (∀ a b, B a b → bt 64 (V 39 a) b.toNat = true) → ∀ a b, B a b → bt 64 (Z 39 a) b.toNat = true) → ((d = 0 ∧ Z = V ∧ ∀ a b, 0 ≤ a → a < V 15 6 → 0 ≤ b → b < V 15 6 → (a < i ∨ a = i ∧ b < j) → bt 64 (V 39 a) b.toNat = true → fwB (V 16) (V 17) (V 39) (V 15 3) (V 15 6) a b = true ∧ bwB (V 16) (V 18) (V 39) (V 15 3) (V 15 6) a b = true) ∨ (d = 1 ∧ cntP Z 39 + 1 ≤ cntP V 39)) → ((V 15 6 - j).toNat) < f9 → J X G 15 [vA 38, vA 15, vI d, vI i, vI j, vU] [] Z := by
          intro f9
          induction f9 with
          | zero => intro d j Z _ _ _ _ _ hm; exact absurd hm (Nat.not_lt_zero _)
          | succ f9 ih_15 =>
            intro d j Z hj hs2 hsub2 hB2 hD2 hm
            refine j_il4 hX dX6_dropDeadEnds_15 ?_
            refine j_al1 hX dX6_dropDeadEnds_17 rfl ?_
            refine j_getI hX hG fl_X6_70 (Or.inl rfl) (by decide) dX6_dropDeadEnds_18 ?_
            refine j_icmp_ge (tgt := 109) hX dX6_dropDeadEnds_21 (by decide) (fun h_21 => ?_) (fun h_21 => ?_)
            · skip
              refine j_inc3 hX dX6_dropDeadEnds_109 rfl (by omega) ?_
              refine j_goto (tgt := 4) hX dX6_dropDeadEnds_112 (by decide) ?_
              refine j_fg4 ?_
              exact ih_4 _ _ _ (by omega) hs2 hsub2 hB2 (hD2.elim (fun h => Or.inl ⟨h.1, h.2.1, fun a b h0 h1 h3 h4 h5 => h.2.2 a b h0 h1 h3 h4 (by have := hs2 15 6 (by decide); omega)⟩) Or.inr) (by omega)
            · skip
              have q5 : Z 15 5 = V 15 5 := hs2 15 5 (by decide)
              have q3 : Z 15 3 = V 15 3 := hs2 15 3 (by decide)
              have q6 : Z 15 6 = V 15 6 := hs2 15 6 (by decide)
              have q16 : Z 16 = V 16 := funext fun b => hs2 16 b (by decide)
              have q17 : Z 17 = V 17 := funext fun b => hs2 17 b (by decide)
              have q18 : Z 18 = V 18 := funext fun b => hs2 18 b (by decide)
              have roZ : RO Z 15 := ho9.sm (fun b => hs2 15 b (by decide))
              have trZ : TR Z 15 := fun e h0 h1 => by rw [show Z (15 + 1) e = V (15 + 1) e from hs2 16 e (by decide), q3]; exact ht e h0 (by rw [q5] at h1; exact h1)
              refine j_al0 hX dX6_dropDeadEnds_24 rfl ?_
              refine j_getR (q := 39) hX hG fl_X6_9 rfl rfl (by decide) dX6_dropDeadEnds_25 ?_
              refine j_il3 hX dX6_dropDeadEnds_28 ?_
              refine j_pSL2 hX hG lk_X6_91 (ok_X11_bitsAt_in (n := 36) (by decide) (by first | assumption | decide) (by first | assumption | omega | decide)) (Nat.le_of_ble_eq_true rfl) (Nat.le_of_ble_eq_true rfl) (Nat.le_of_ble_eq_true rfl) rfl dX6_dropDeadEnds_29 ?_
              refine j_rngL fun hrz => ?_
              refine j_il4 hX dX6_dropDeadEnds_32 ?_
              refine j_lshr hX dX6_dropDeadEnds_34 (by omega) ?_
              refine j_lconst (x := 1) hX dX6_dropDeadEnds_35 rfl ⟨by decide, by decide⟩ ?_
              refine j_land hX dX6_dropDeadEnds_36 ?_
              refine j_lconst (x := 0) hX dX6_dropDeadEnds_37 rfl ⟨by decide, by decide⟩ ?_
              refine j_lcmp_eq (tgt := 46) hX dX6_dropDeadEnds_38 dX6_dropDeadEnds_39 (by decide) (fun h_39 => ?_) (fun h_39 => ?_)
              · skip
                have hbit : bt 64 (Z 39 i) j.toNat = false := by cases e : bt 64 (Z 39 i) j.toNat with | false => rfl | true => rw [has64 hrz (by omega), e] at h_39; cases h_39
                refine j_iconst hX dX6_dropDeadEnds_46 ⟨by decide, by decide⟩ ?_
                refine j_is5 hX dX6_dropDeadEnds_47 rfl ?_
                refine j_il5 hX dX6_dropDeadEnds_49 ?_
                refine j_if_eq (tgt := 103) hX dX6_dropDeadEnds_51 (by decide) (fun h_51 => ?_) (fun h_51 => ?_)
                · skip
                  refine j_inc4 hX dX6_dropDeadEnds_103 rfl (by omega) ?_
                  refine j_goto (tgt := 15) hX dX6_dropDeadEnds_106 (by decide) ?_
                  refine j_fg5 ?_
                  exact ih_15 _ _ _ (by omega) (by first | exact fr_u hs2 (by decide) | exact hs2) (by first | exact hsub2 | exact ddSub hsub2) (by first | exact hB2 | exact ddB (by omega) (by omega) hB2 (by first | (intro q; exact h_62 (by rw [q16, q17, q3, q6]; exact (fw_t (hl) htb (by omega) h56 (by omega) (by omega) (by omega)).mpr q.1)) | (intro q; exact h_73 (by rw [q16, q18, q3, q6]; exact (bw_t (hl2) htb (by omega) h56 (by omega) (by omega) (by omega)).mpr q.2)))) (by first | (exfalso; omega) | exact ddN hD2 hbit | exact ddW hD2 (by rw [q16, q17, q3, q6] at h_62; exact h_62) (by rw [q16, q18, q3, q6] at h_73; exact h_73) | exact Or.inr ⟨rfl, ddC (by omega) (by omega) (by omega) hD2 hbit⟩) (by omega)
                · skip
                  refine j_al0 hX dX6_dropDeadEnds_54 rfl ?_
                  refine j_al1 hX dX6_dropDeadEnds_55 rfl ?_
                  refine j_il3 hX dX6_dropDeadEnds_56 ?_
                  refine j_il4 hX dX6_dropDeadEnds_57 ?_
                  refine j_pVI3 (ci := 6) hX hG lk_X6_108 (ok_X6_hasWayForth roZ trZ (by first | assumption | omega | decide) (by first | assumption | omega | decide)) (by decide) rfl (Nat.le_of_ble_eq_true rfl) (Nat.le_of_ble_eq_true rfl) (Nat.le_of_ble_eq_true rfl) rfl dX6_dropDeadEnds_59 ?_
                  refine j_ifz_eq (tgt := 76) hX dX6_dropDeadEnds_62 (by decide) (fun h_62 => ?_) (fun h_62 => ?_)
                  · skip
                    refine j_al0 hX dX6_dropDeadEnds_76 rfl ?_
                    refine j_getR (q := 39) hX hG fl_X6_9 rfl rfl (by decide) dX6_dropDeadEnds_77 ?_
                    refine j_il3 hX dX6_dropDeadEnds_80 ?_
                    refine j_al0 hX dX6_dropDeadEnds_81 rfl ?_
                    refine j_getR (q := 39) hX hG fl_X6_9 rfl rfl (by decide) dX6_dropDeadEnds_82 ?_
                    refine j_il3 hX dX6_dropDeadEnds_85 ?_
                    refine j_pSL2 hX hG lk_X6_91 (ok_X11_bitsAt_in (n := 36) (by decide) (by first | assumption | decide) (by first | assumption | omega | decide)) (Nat.le_of_ble_eq_true rfl) (Nat.le_of_ble_eq_true rfl) (Nat.le_of_ble_eq_true rfl) rfl dX6_dropDeadEnds_86 ?_
                    refine j_lconst (x := 1) hX dX6_dropDeadEnds_89 rfl ⟨by decide, by decide⟩ ?_
                    refine j_il4 hX dX6_dropDeadEnds_90 ?_
                    refine j_lshl hX dX6_dropDeadEnds_92 (by omega) (p2_62 (by omega)) ?_
                    refine j_ldc2 (x := (-1)) hX dX6_dropDeadEnds_93 lc_X6_95 ⟨by decide, by decide⟩ ?_
                    refine j_lxor hX dX6_dropDeadEnds_96 ?_
                    refine j_land hX dX6_dropDeadEnds_97 ?_
                    refine j_cSV3 hX hG lk_X6_97 (ok_X11_putBits_in (n := 36) (by decide) (by first | assumption | decide) (by first | assumption | omega | decide)) (Nat.le_of_ble_eq_true rfl) (Nat.le_of_ble_eq_true rfl) (Nat.le_of_ble_eq_true rfl) rfl dX6_dropDeadEnds_98 (fun V_98 h_98 => ?_)
                    subst h_98
                    refine j_iconst hX dX6_dropDeadEnds_101 ⟨by decide, by decide⟩ ?_
                    refine j_is2 hX dX6_dropDeadEnds_102 rfl ?_
                    refine j_inc4 hX dX6_dropDeadEnds_103 rfl (by omega) ?_
                    refine j_goto (tgt := 15) hX dX6_dropDeadEnds_106 (by decide) ?_
                    refine j_fg5 ?_
                    exact ih_15 _ _ _ (by omega) (by first | exact fr_u hs2 (by decide) | exact hs2) (by first | exact hsub2 | exact ddSub hsub2) (by first | exact hB2 | exact ddB (by omega) (by omega) hB2 (by first | (intro q; exact h_62 (by rw [q16, q17, q3, q6]; exact (fw_t (hl) htb (by omega) h56 (by omega) (by omega) (by omega)).mpr q.1)) | (intro q; exact h_73 (by rw [q16, q18, q3, q6]; exact (bw_t (hl2) htb (by omega) h56 (by omega) (by omega) (by omega)).mpr q.2)))) (by first | (exfalso; omega) | exact ddN hD2 hbit | exact ddW hD2 (by rw [q16, q17, q3, q6] at h_62; exact h_62) (by rw [q16, q18, q3, q6] at h_73; exact h_73) | exact Or.inr ⟨rfl, ddC (by omega) (by omega) (by omega) hD2 hbit⟩) (by omega)
                  · skip
                    refine j_al0 hX dX6_dropDeadEnds_65 rfl ?_
                    refine j_al1 hX dX6_dropDeadEnds_66 rfl ?_
                    refine j_il3 hX dX6_dropDeadEnds_67 ?_
                    refine j_il4 hX dX6_dropDeadEnds_68 ?_
                    refine j_pVI3 (ci := 6) hX hG lk_X6_112 (ok_X6_hasWayBack roZ trZ (by first | assumption | omega | decide) (by first | assumption | omega | decide)) (by decide) rfl (Nat.le_of_ble_eq_true rfl) (Nat.le_of_ble_eq_true rfl) (Nat.le_of_ble_eq_true rfl) rfl dX6_dropDeadEnds_70 ?_
                    refine j_ifz_ne (tgt := 103) hX dX6_dropDeadEnds_73 (by decide) (fun h_73 => ?_) (fun h_73 => ?_)
                    · skip
                      refine j_inc4 hX dX6_dropDeadEnds_103 rfl (by omega) ?_
                      refine j_goto (tgt := 15) hX dX6_dropDeadEnds_106 (by decide) ?_
                      refine j_fg5 ?_
                      exact ih_15 _ _ _ (by omega) (by first | exact fr_u hs2 (by decide) | exact hs2) (by first | exact hsub2 | exact ddSub hsub2) (by first | exact hB2 | exact ddB (by omega) (by omega) hB2 (by first | (intro q; exact h_62 (by rw [q16, q17, q3, q6]; exact (fw_t (hl) htb (by omega) h56 (by omega) (by omega) (by omega)).mpr q.1)) | (intro q; exact h_73 (by rw [q16, q18, q3, q6]; exact (bw_t (hl2) htb (by omega) h56 (by omega) (by omega) (by omega)).mpr q.2)))) (by first | (exfalso; omega) | exact ddN hD2 hbit | exact ddW hD2 (by rw [q16, q17, q3, q6] at h_62; exact h_62) (by rw [q16, q18, q3, q6] at h_73; exact h_73) | exact Or.inr ⟨rfl, ddC (by omega) (by omega) (by omega) hD2 hbit⟩) (by omega)
                    · skip
                      refine j_al0 hX dX6_dropDeadEnds_76 rfl ?_
                      refine j_getR (q := 39) hX hG fl_X6_9 rfl rfl (by decide) dX6_dropDeadEnds_77 ?_
                      refine j_il3 hX dX6_dropDeadEnds_80 ?_
                      refine j_al0 hX dX6_dropDeadEnds_81 rfl ?_
                      refine j_getR (q := 39) hX hG fl_X6_9 rfl rfl (by decide) dX6_dropDeadEnds_82 ?_
                      refine j_il3 hX dX6_dropDeadEnds_85 ?_
                      refine j_pSL2 hX hG lk_X6_91 (ok_X11_bitsAt_in (n := 36) (by decide) (by first | assumption | decide) (by first | assumption | omega | decide)) (Nat.le_of_ble_eq_true rfl) (Nat.le_of_ble_eq_true rfl) (Nat.le_of_ble_eq_true rfl) rfl dX6_dropDeadEnds_86 ?_
                      refine j_lconst (x := 1) hX dX6_dropDeadEnds_89 rfl ⟨by decide, by decide⟩ ?_
                      refine j_il4 hX dX6_dropDeadEnds_90 ?_
                      refine j_lshl hX dX6_dropDeadEnds_92 (by omega) (p2_62 (by omega)) ?_
                      refine j_ldc2 (x := (-1)) hX dX6_dropDeadEnds_93 lc_X6_95 ⟨by decide, by decide⟩ ?_
                      refine j_lxor hX dX6_dropDeadEnds_96 ?_
                      refine j_land hX dX6_dropDeadEnds_97 ?_
                      refine j_cSV3 hX hG lk_X6_97 (ok_X11_putBits_in (n := 36) (by decide) (by first | assumption | decide) (by first | assumption | omega | decide)) (Nat.le_of_ble_eq_true rfl) (Nat.le_of_ble_eq_true rfl) (Nat.le_of_ble_eq_true rfl) rfl dX6_dropDeadEnds_98 (fun V_98 h_98 => ?_)
                      subst h_98
                      refine j_iconst hX dX6_dropDeadEnds_101 ⟨by decide, by decide⟩ ?_
                      refine j_is2 hX dX6_dropDeadEnds_102 rfl ?_
                      refine j_inc4 hX dX6_dropDeadEnds_103 rfl (by omega) ?_
                      refine j_goto (tgt := 15) hX dX6_dropDeadEnds_106 (by decide) ?_
                      refine j_fg5 ?_
                      exact ih_15 _ _ _ (by omega) (by first | exact fr_u hs2 (by decide) | exact hs2) (by first | exact hsub2 | exact ddSub hsub2) (by first | exact hB2 | exact ddB (by omega) (by omega) hB2 (by first | (intro q; exact h_62 (by rw [q16, q17, q3, q6]; exact (fw_t (hl) htb (by omega) h56 (by omega) (by omega) (by omega)).mpr q.1)) | (intro q; exact h_73 (by rw [q16, q18, q3, q6]; exact (bw_t (hl2) htb (by omega) h56 (by omega) (by omega) (by omega)).mpr q.2)))) (by first | (exfalso; omega) | exact ddN hD2 hbit | exact ddW hD2 (by rw [q16, q17, q3, q6] at h_62; exact h_62) (by rw [q16, q18, q3, q6] at h_73; exact h_73) | exact Or.inr ⟨rfl, ddC (by omega) (by omega) (by omega) hD2 hbit⟩) (by omega)
              · skip
                have hbit : bt 64 (Z 39 i) j.toNat = true := by cases e : bt 64 (Z 39 i) j.toNat with | true => rfl | false => rw [has64 hrz (by omega), e] at h_39; exact absurd rfl h_39
                refine j_iconst hX dX6_dropDeadEnds_42 ⟨by decide, by decide⟩ ?_
                refine j_goto (tgt := 47) hX dX6_dropDeadEnds_43 (by decide) ?_
                refine j_is5 hX dX6_dropDeadEnds_47 rfl ?_
                refine j_il5 hX dX6_dropDeadEnds_49 ?_
                refine j_if_eq (tgt := 103) hX dX6_dropDeadEnds_51 (by decide) (fun h_51 => ?_) (fun h_51 => ?_)
                · skip
                  refine j_inc4 hX dX6_dropDeadEnds_103 rfl (by omega) ?_
                  refine j_goto (tgt := 15) hX dX6_dropDeadEnds_106 (by decide) ?_
                  refine j_fg5 ?_
                  exact ih_15 _ _ _ (by omega) (by first | exact fr_u hs2 (by decide) | exact hs2) (by first | exact hsub2 | exact ddSub hsub2) (by first | exact hB2 | exact ddB (by omega) (by omega) hB2 (by first | (intro q; exact h_62 (by rw [q16, q17, q3, q6]; exact (fw_t (hl) htb (by omega) h56 (by omega) (by omega) (by omega)).mpr q.1)) | (intro q; exact h_73 (by rw [q16, q18, q3, q6]; exact (bw_t (hl2) htb (by omega) h56 (by omega) (by omega) (by omega)).mpr q.2)))) (by first | (exfalso; omega) | exact ddN hD2 hbit | exact ddW hD2 (by rw [q16, q17, q3, q6] at h_62; exact h_62) (by rw [q16, q18, q3, q6] at h_73; exact h_73) | exact Or.inr ⟨rfl, ddC (by omega) (by omega) (by omega) hD2 hbit⟩) (by omega)
                · skip
                  refine j_al0 hX dX6_dropDeadEnds_54 rfl ?_
                  refine j_al1 hX dX6_dropDeadEnds_55 rfl ?_
                  refine j_il3 hX dX6_dropDeadEnds_56 ?_
                  refine j_il4 hX dX6_dropDeadEnds_57 ?_
                  refine j_pVI3 (ci := 6) hX hG lk_X6_108 (ok_X6_hasWayForth roZ trZ (by first | assumption | omega | decide) (by first | assumption | omega | decide)) (by decide) rfl (Nat.le_of_ble_eq_true rfl) (Nat.le_of_ble_eq_true rfl) (Nat.le_of_ble_eq_true rfl) rfl dX6_dropDeadEnds_59 ?_
                  refine j_ifz_eq (tgt := 76) hX dX6_dropDeadEnds_62 (by decide) (fun h_62 => ?_) (fun h_62 => ?_)
                  · skip
                    refine j_al0 hX dX6_dropDeadEnds_76 rfl ?_
                    refine j_getR (q := 39) hX hG fl_X6_9 rfl rfl (by decide) dX6_dropDeadEnds_77 ?_
                    refine j_il3 hX dX6_dropDeadEnds_80 ?_
                    refine j_al0 hX dX6_dropDeadEnds_81 rfl ?_
                    refine j_getR (q := 39) hX hG fl_X6_9 rfl rfl (by decide) dX6_dropDeadEnds_82 ?_
                    refine j_il3 hX dX6_dropDeadEnds_85 ?_
                    refine j_pSL2 hX hG lk_X6_91 (ok_X11_bitsAt_in (n := 36) (by decide) (by first | assumption | decide) (by first | assumption | omega | decide)) (Nat.le_of_ble_eq_true rfl) (Nat.le_of_ble_eq_true rfl) (Nat.le_of_ble_eq_true rfl) rfl dX6_dropDeadEnds_86 ?_
                    refine j_lconst (x := 1) hX dX6_dropDeadEnds_89 rfl ⟨by decide, by decide⟩ ?_
                    refine j_il4 hX dX6_dropDeadEnds_90 ?_
                    refine j_lshl hX dX6_dropDeadEnds_92 (by omega) (p2_62 (by omega)) ?_
                    refine j_ldc2 (x := (-1)) hX dX6_dropDeadEnds_93 lc_X6_95 ⟨by decide, by decide⟩ ?_
                    refine j_lxor hX dX6_dropDeadEnds_96 ?_
                    refine j_land hX dX6_dropDeadEnds_97 ?_
                    refine j_cSV3 hX hG lk_X6_97 (ok_X11_putBits_in (n := 36) (by decide) (by first | assumption | decide) (by first | assumption | omega | decide)) (Nat.le_of_ble_eq_true rfl) (Nat.le_of_ble_eq_true rfl) (Nat.le_of_ble_eq_true rfl) rfl dX6_dropDeadEnds_98 (fun V_98 h_98 => ?_)
                    subst h_98
                    refine j_iconst hX dX6_dropDeadEnds_101 ⟨by decide, by decide⟩ ?_
                    refine j_is2 hX dX6_dropDeadEnds_102 rfl ?_
                    refine j_inc4 hX dX6_dropDeadEnds_103 rfl (by omega) ?_
                    refine j_goto (tgt := 15) hX dX6_dropDeadEnds_106 (by decide) ?_
                    refine j_fg5 ?_
                    exact ih_15 _ _ _ (by omega) (by first | exact fr_u hs2 (by decide) | exact hs2) (by first | exact hsub2 | exact ddSub hsub2) (by first | exact hB2 | exact ddB (by omega) (by omega) hB2 (by first | (intro q; exact h_62 (by rw [q16, q17, q3, q6]; exact (fw_t (hl) htb (by omega) h56 (by omega) (by omega) (by omega)).mpr q.1)) | (intro q; exact h_73 (by rw [q16, q18, q3, q6]; exact (bw_t (hl2) htb (by omega) h56 (by omega) (by omega) (by omega)).mpr q.2)))) (by first | (exfalso; omega) | exact ddN hD2 hbit | exact ddW hD2 (by rw [q16, q17, q3, q6] at h_62; exact h_62) (by rw [q16, q18, q3, q6] at h_73; exact h_73) | exact Or.inr ⟨rfl, ddC (by omega) (by omega) (by omega) hD2 hbit⟩) (by omega)
                  · skip
                    refine j_al0 hX dX6_dropDeadEnds_65 rfl ?_
                    refine j_al1 hX dX6_dropDeadEnds_66 rfl ?_
                    refine j_il3 hX dX6_dropDeadEnds_67 ?_
                    refine j_il4 hX dX6_dropDeadEnds_68 ?_
                    refine j_pVI3 (ci := 6) hX hG lk_X6_112 (ok_X6_hasWayBack roZ trZ (by first | assumption | omega | decide) (by first | assumption | omega | decide)) (by decide) rfl (Nat.le_of_ble_eq_true rfl) (Nat.le_of_ble_eq_true rfl) (Nat.le_of_ble_eq_true rfl) rfl dX6_dropDeadEnds_70 ?_
                    refine j_ifz_ne (tgt := 103) hX dX6_dropDeadEnds_73 (by decide) (fun h_73 => ?_) (fun h_73 => ?_)
                    · skip
                      refine j_inc4 hX dX6_dropDeadEnds_103 rfl (by omega) ?_
                      refine j_goto (tgt := 15) hX dX6_dropDeadEnds_106 (by decide) ?_
                      refine j_fg5 ?_
                      exact ih_15 _ _ _ (by omega) (by first | exact fr_u hs2 (by decide) | exact hs2) (by first | exact hsub2 | exact ddSub hsub2) (by first | exact hB2 | exact ddB (by omega) (by omega) hB2 (by first | (intro q; exact h_62 (by rw [q16, q17, q3, q6]; exact (fw_t (hl) htb (by omega) h56 (by omega) (by omega) (by omega)).mpr q.1)) | (intro q; exact h_73 (by rw [q16, q18, q3, q6]; exact (bw_t (hl2) htb (by omega) h56 (by omega) (by omega) (by omega)).mpr q.2)))) (by first | (exfalso; omega) | exact ddN hD2 hbit | exact ddW hD2 (by rw [q16, q17, q3, q6] at h_62; exact h_62) (by rw [q16, q18, q3, q6] at h_73; exact h_73) | exact Or.inr ⟨rfl, ddC (by omega) (by omega) (by omega) hD2 hbit⟩) (by omega)
                    · skip
                      refine j_al0 hX dX6_dropDeadEnds_76 rfl ?_
                      refine j_getR (q := 39) hX hG fl_X6_9 rfl rfl (by decide) dX6_dropDeadEnds_77 ?_
                      refine j_il3 hX dX6_dropDeadEnds_80 ?_
                      refine j_al0 hX dX6_dropDeadEnds_81 rfl ?_
                      refine j_getR (q := 39) hX hG fl_X6_9 rfl rfl (by decide) dX6_dropDeadEnds_82 ?_
                      refine j_il3 hX dX6_dropDeadEnds_85 ?_
                      refine j_pSL2 hX hG lk_X6_91 (ok_X11_bitsAt_in (n := 36) (by decide) (by first | assumption | decide) (by first | assumption | omega | decide)) (Nat.le_of_ble_eq_true rfl) (Nat.le_of_ble_eq_true rfl) (Nat.le_of_ble_eq_true rfl) rfl dX6_dropDeadEnds_86 ?_
                      refine j_lconst (x := 1) hX dX6_dropDeadEnds_89 rfl ⟨by decide, by decide⟩ ?_
                      refine j_il4 hX dX6_dropDeadEnds_90 ?_
                      refine j_lshl hX dX6_dropDeadEnds_92 (by omega) (p2_62 (by omega)) ?_
                      refine j_ldc2 (x := (-1)) hX dX6_dropDeadEnds_93 lc_X6_95 ⟨by decide, by decide⟩ ?_
                      refine j_lxor hX dX6_dropDeadEnds_96 ?_
                      refine j_land hX dX6_dropDeadEnds_97 ?_
                      refine j_cSV3 hX hG lk_X6_97 (ok_X11_putBits_in (n := 36) (by decide) (by first | assumption | decide) (by first | assumption | omega | decide)) (Nat.le_of_ble_eq_true rfl) (Nat.le_of_ble_eq_true rfl) (Nat.le_of_ble_eq_true rfl) rfl dX6_dropDeadEnds_98 (fun V_98 h_98 => ?_)
                      subst h_98
                      refine j_iconst hX dX6_dropDeadEnds_101 ⟨by decide, by decide⟩ ?_
                      refine j_is2 hX dX6_dropDeadEnds_102 rfl ?_
                      refine j_inc4 hX dX6_dropDeadEnds_103 rfl (by omega) ?_
                      refine j_goto (tgt := 15) hX dX6_dropDeadEnds_106 (by decide) ?_
                      refine j_fg5 ?_
                      exact ih_15 _ _ _ (by omega) (by first | exact fr_u hs2 (by decide) | exact hs2) (by first | exact hsub2 | exact ddSub hsub2) (by first | exact hB2 | exact ddB (by omega) (by omega) hB2 (by first | (intro q; exact h_62 (by rw [q16, q17, q3, q6]; exact (fw_t (hl) htb (by omega) h56 (by omega) (by omega) (by omega)).mpr q.1)) | (intro q; exact h_73 (by rw [q16, q18, q3, q6]; exact (bw_t (hl2) htb (by omega) h56 (by omega) (by omega) (by omega)).mpr q.2)))) (by first | (exfalso; omega) | exact ddN hD2 hbit | exact ddW hD2 (by rw [q16, q17, q3, q6] at h_62; exact h_62) (by rw [q16, q18, q3, q6] at h_73; exact h_73) | exact Or.inr ⟨rfl, ddC (by omega) (by omega) (by omega) hD2 hbit⟩) (by omega)
        exact lp_15 _ _ _ _ (by omega) hs hsub hB (hD.elim (fun h => Or.inl ⟨h.1, h.2.1, fun a b h0 h1 h3 h4 h5 => h.2.2 a b h0 h1 h3 h4 (by omega)⟩) Or.inr) (Nat.lt_succ_self _)
  exact lp_4 _ _ _ _ (by omega) fr_0 (fun _ _ _ _ _ h => h) (fun _ _ h => h) (Or.inl ⟨rfl, rfl, fun a b h0 _ _ _ h => by omega⟩) (Nat.lt_succ_self _)
