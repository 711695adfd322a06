/-! what a rule gives for a longer word; the places that tell -/
def imgF (T : Int → Int) (g n u : Int) : Nat → Int
  | 0 => 0
  | k + 1 => imgF T g n u k + g ^ k * T (u / g ^ k % n)
theorem imgF_S {T : Int → Int} {g n u k : Int} (h : 0 ≤ k) : imgF T g n u (k + 1).toNat = imgF T g n u k.toNat + g ^ k.toNat * T (u / g ^ k.toNat % n) := by
  rw [show (k + 1).toNat = k.toNat + 1 by omega]; rfl
theorem imgF_b {T : Int → Int} {g n u : Int} (hg : 1 ≤ g) (hn : 1 ≤ n) (hT : ∀ e, 0 ≤ e → e < n → 0 ≤ T e ∧ T e < g) : ∀ k : Nat, 0 ≤ imgF T g n u k ∧ imgF T g n u k < g ^ k
  | 0 => by unfold imgF; simp
  | k + 1 => by
    have ih := imgF_b (u := u) hg hn hT k
    have hm := md_b (u / g ^ k) hn
    have ht := hT _ hm.1 hm.2
    have hp : 0 < g ^ k := Int.pow_pos (by omega)
    unfold imgF
    rw [Int.pow_succ]
    have h1 : 0 ≤ g ^ k * T (u / g ^ k % n) := Int.mul_nonneg (by omega) ht.1
    have h2 : g ^ k * (T (u / g ^ k % n) + 1) ≤ g ^ k * g := Int.mul_le_mul_of_nonneg_left (by omega) (by omega)
    rw [Int.mul_add, Int.mul_one] at h2
    omega
theorem pw5 {g : Int} (h : 2 ≤ g ∧ g ≤ 6) {k : Nat} (hk : k ≤ 5) : 1 ≤ g ^ k ∧ g ^ k ≤ 7776 := by
  have : k = 0 ∨ k = 1 ∨ k = 2 ∨ k = 3 ∨ k = 4 ∨ k = 5 := by omega
  rcases this with e | e | e | e | e | e <;> rw [e] <;> rcases g26 h with e | e | e | e | e <;> subst e <;> decide
/-- place s of a word of v + w - 1 states tells for sure -/
def TEL (T : Int → Int) (g n : Int) (v o : Nat) (s : Int) : Prop := ∀ x y, 0 ≤ x → x < g ^ o → 0 ≤ y → y < g ^ o → imgF T g n x v = imgF T g n y v → dg g x (o - 1 - s).toNat = dg g y (o - 1 - s).toNat
theorem div_S {g x : Int} {j : Nat} (hg : 1 ≤ g) : x / g ^ j / g = x / g ^ (j + 1) := by
  rw [Int.pow_succ, Int.ediv_ediv_of_nonneg (Int.le_of_lt (Int.pow_pos (by omega)))]
theorem div_T {g x : Int} {j : Nat} (hg : 1 ≤ g) : x / g ^ j / g = x / (g ^ j * g) := Int.ediv_ediv_of_nonneg (Int.le_of_lt (Int.pow_pos (by omega)))
/-- decimal digits as a word -/
def decC (g : Int) : Nat → Int → Int
  | 0, r => if r = 0 then 0 else -1
  | k + 1, r => if r.tmod 10 < 0 ∨ g ≤ r.tmod 10 then -1 else if decC g k (r.tdiv 10) = -1 then -1 else r.tmod 10 + g * decC g k (r.tdiv 10)
theorem decC_b {g : Int} (hg : 1 ≤ g) : ∀ (k : Nat) (r : Int), decC g k r = -1 ∨ 0 ≤ decC g k r ∧ decC g k r < g ^ k
  | 0, r => by unfold decC; split <;> simp
  | k + 1, r => by
    have ih := decC_b hg k (r.tdiv 10)
    unfold decC
    split
    · exact Or.inl rfl
    · split
      · exact Or.inl rfl
      · rename_i h1 h2
        right
        have h3 : 0 ≤ decC g k (r.tdiv 10) ∧ decC g k (r.tdiv 10) < g ^ k := ih.elim (fun q => absurd q h2) id
        have h4 := Int.mul_nonneg (show 0 ≤ g by omega) h3.1
        have h5 : g * (decC g k (r.tdiv 10) + 1) ≤ g * g ^ k := Int.mul_le_mul_of_nonneg_left (by omega) (by omega)
        rw [Int.mul_add, Int.mul_one] at h5
        rw [Int.pow_succ, Int.mul_comm (g ^ k) g]
        omega
theorem bt3264 {x : Int} (h : 0 ≤ x) {i : Nat} (hi : i < 32) : bt 64 x i = bt 32 x i := by
  rw [show x = ((x.toNat : Nat) : Int) by omega, bt_nat (by omega), bt_nat hi]
theorem nneg32 {x : Int} (h : r32 x) (h2 : bt 32 x 31 = false) : 0 ≤ x := by
  have := (neg_bt h).mp
  refine Classical.byContradiction fun q => ?_
  have := this (by omega)
  rw [h2] at this; cases this
theorem bnz32 {x : Int} (hx : r32 x) : x ≠ 0 ↔ ∃ b : Nat, b < 32 ∧ bt 32 x b = true := by
  constructor
  · intro h
    refine Classical.byContradiction fun q => h (ext32 hx ⟨by decide, by decide⟩ fun i hi => ?_)
    rw [bt_0]
    cases e : bt 32 x i with
    | false => rfl
    | true => exact absurd ⟨i, hi, e⟩ q
  · rintro ⟨b, hb, h⟩ rfl
    rw [bt_0] at h; cases h
/-- the first origins of the images -/
def OG (W : VV) (T : Int → Int) (g n m : Int) (v : Nat) : Prop := ∀ c, 0 ≤ c → c < 7776 → (W 43 c = -1 ∧ ∀ x, 0 ≤ x → x < m → imgF T g n x v ≠ c) ∨ (0 ≤ W 43 c ∧ W 43 c < m ∧ imgF T g n (W 43 c) v = c)
/-- the places that tell, as a set, for the words below u -/
def SHB (T : Int → Int) (g n m : Int) (v o : Nat) (sh : Int) : Prop := ∀ p : Nat, p < 32 → (bt 32 sh p = true ↔ p < o ∧ ∀ x y, 0 ≤ x → x < m → 0 ≤ y → y < m → imgF T g n x v = imgF T g n y v → dg g x ((o : Int) - 1 - (p : Int)).toNat = dg g y ((o : Int) - 1 - (p : Int)).toNat)
theorem SHB_0 {T : Int → Int} {g n : Int} {v o : Nat} (ho : o < 31) : SHB T g n 0 v o (1 * 2 ^ o - 1) := fun p hp => by
  have e : bt 32 (1 * 2 ^ o - 1) p = decide (p < o) := by
    have h9 : (1 * (2 : Int) ^ o - 1) = ((2 ^ o - 1 : Nat) : Int) := by
      have h1 : 1 ≤ 2 ^ o := Nat.one_le_two_pow
      have h2 : ((2 ^ o : Nat) : Int) = 2 ^ o := by push_cast; rfl
      rw [Int.one_mul, ← h2]
      omega
    rw [h9, bt_nat hp, Nat.testBit_two_pow_sub_one]
  rw [e, decide_eq_true_eq]
  exact ⟨fun h => ⟨h, fun x y h0 h1 => by omega⟩, fun h => h.1⟩
theorem SHB_new {T : Int → Int} {g n m : Int} {v o : Nat} {sh : Int} (h : SHB T g n m v o sh) (hn : ∀ x, 0 ≤ x → x < m → imgF T g n x v ≠ imgF T g n m v) : SHB T g n (m + 1) v o sh := fun p hp => by
  rw [h p hp]
  constructor
  · rintro ⟨a, b⟩
    refine ⟨a, fun x y x0 x1 y0 y1 e => ?_⟩
    by_cases ex : x = m
    · by_cases ey : y = m
      · rw [ex, ey]
      · rw [ex] at e; exact absurd e.symm (hn y y0 (by omega))
    · by_cases ey : y = m
      · rw [ey] at e; exact absurd e (hn x x0 (by omega))
      · exact b x y x0 (by omega) y0 (by omega) e
  · rintro ⟨a, b⟩
    exact ⟨a, fun x y x0 x1 y0 y1 e => b x y x0 (by omega) y0 (by omega) e⟩
theorem SHB_old {T : Int → Int} {g n m : Int} {v o : Nat} {sh z : Int} (h : SHB T g n m v o sh) {x0 : Int} (h0 : 0 ≤ x0 ∧ x0 < m) (e0 : imgF T g n x0 v = imgF T g n m v) (hm : 0 ≤ m)
    (hz : ∀ p : Nat, p < 32 → (bt 32 z p = true ↔ p < o ∧ dg g x0 ((o : Int) - 1 - (p : Int)).toNat = dg g m ((o : Int) - 1 - (p : Int)).toNat)) : SHB T g n (m + 1) v o (band 32 sh z) := fun p hp => by
  rw [bt_and, Bool.and_eq_true, h p hp, hz p hp]
  constructor
  · rintro ⟨⟨a, b⟩, -, c⟩
    refine ⟨a, fun x y hx0 hx1 hy0 hy1 e => ?_⟩
    by_cases ex : x = m
    · by_cases ey : y = m
      · rw [ex, ey]
      · rw [ex] at e ⊢; rw [← c]; exact b x0 y h0.1 h0.2 hy0 (by omega) (e0.trans e)
    · by_cases ey : y = m
      · rw [ey] at e ⊢; rw [← c]; exact b x x0 hx0 (by omega) h0.1 h0.2 (e.trans e0.symm)
      · exact b x y hx0 (by omega) hy0 (by omega) e
  · rintro ⟨a, b⟩
    exact ⟨⟨a, fun x y hx0 hx1 hy0 hy1 e => b x y hx0 (by omega) hy0 (by omega) e⟩, a, b x0 m h0.1 (by omega) hm (by omega) e0⟩
theorem OG_new {W : VV} {T : Int → Int} {g n m : Int} {v : Nat} (h : OG W T g n m v) (hm : 0 ≤ m) (hn : ∀ x, 0 ≤ x → x < m → imgF T g n x v ≠ imgF T g n m v) : OG (up W 43 (imgF T g n m v) m) T g n (m + 1) v := fun c c0 c1 => by
  by_cases e : c = imgF T g n m v
  · rw [e, up_s]
    exact Or.inr ⟨hm, by omega, rfl⟩
  · rw [up_n _ (by omega)]
    rcases h c c0 c1 with ⟨a, b⟩ | ⟨a, b, d⟩
    · refine Or.inl ⟨a, fun x x0 x1 q => ?_⟩
      by_cases ex : x = m
      · rw [ex] at q; exact e q.symm
      · exact b x x0 (by omega) q
    · exact Or.inr ⟨a, by omega, d⟩
theorem OG_old {W : VV} {T : Int → Int} {g n m : Int} {v : Nat} (h : OG W T g n m v) {x0 : Int} (h0 : 0 ≤ x0 ∧ x0 < m) (e0 : imgF T g n x0 v = imgF T g n m v) : OG W T g n (m + 1) v := fun c c0 c1 => by
  rcases h c c0 c1 with ⟨a, b⟩ | ⟨a, b, d⟩
  · refine Or.inl ⟨a, fun x hx0 hx1 q => ?_⟩
    by_cases ex : x = m
    · rw [ex] at q; exact b x0 h0.1 h0.2 (e0.trans q)
    · exact b x hx0 (by omega) q
  · exact Or.inr ⟨a, by omega, d⟩

section EQL4
variable {X : Cx} {G : GS} {pc : Nat} {st : List MV} {V : VV}
theorem j_eqL4 {a b c d : MV} {x y z x' y' z' : Int} (e1 : x' = x) (e2 : y' = y) (e3 : z' = z) (kk : J X G pc [a, b, c, d, vI x', vI y', vI z'] st V) : J X G pc [a, b, c, d, vI x, vI y, vI z] st V := by
  subst e1; subst e2; subst e3; exact kk
end EQL4
set_option maxHeartbeats 4000000 in
theorem ok_X3_imageOf {V : VV} {u v : Int} (ho9 : RO V 15) (ht : TR V 15) (hst : V 42 2 = V 15 3) (hu : 0 ≤ u ∧ u ≤ 1000000) (hv : 0 ≤ v ∧ v ≤ 5) : Ok NC yX3_imageOf cX3_imageOf 8 (some .int) 2 42 [vA 42, vA 15, vI u, vI v] V (pI (fun x9 V' => x9 = imgF (V 16) (V 15 3) (V 15 5) u v.toNat ∧ V' = V)) := by
  refine Ok.intro (by decide +kernel) (Nat.le_of_ble_eq_true rfl) (fun X G hX hG hR hoa hoV => ?_)
  show J X G 0 [vA 42, vA 15, vI u, vI v, vU, vU, vU, vU] [] V
  have hb9 := ho9.b
  refine j_iconst hX dX3_imageOf_0 ⟨by decide, by decide⟩ ?_
  refine j_is4 hX dX3_imageOf_1 rfl ?_
  refine j_iconst hX dX3_imageOf_3 ⟨by decide, by decide⟩ ?_
  refine j_is5 hX dX3_imageOf_4 rfl ?_
  refine j_il2 hX dX3_imageOf_6 ?_
  refine j_is6 hX dX3_imageOf_7 rfl ?_
  refine j_iconst hX dX3_imageOf_9 ⟨by decide, by decide⟩ ?_
  refine j_is7 hX dX3_imageOf_10 rfl ?_
  have lp_12 : ∀ (f9 : Nat) (k : Int), (0 ≤ k ∧ k ≤ v) → ((v - k).toNat) < f9 → J X G 12 [vA 42, vA 15, vI u, vI v, vI (imgF (V 16) (V 15 3) (V 15 5) u k.toNat), vI (V 15 3 ^ k.toNat), vI (u / V 15 3 ^ k.toNat), vI k] [] V := by
    intro f9
    induction f9 with
    | zero => intro k _ hm; exact absurd hm (Nat.not_lt_zero _)
    | succ f9 ih_12 =>
      intro k hk hm
      refine j_il7 hX dX3_imageOf_12 ?_
      refine j_il3 hX dX3_imageOf_14 ?_
      refine j_icmp_ge (tgt := 65) hX dX3_imageOf_15 (by decide) (fun h_15 => ?_) (fun h_15 => ?_)
      · skip
        refine j_il4 hX dX3_imageOf_65 ?_
        exact j_retI hR dX3_imageOf_67 ⟨by rw [show k = v by omega], rfl⟩
      · skip
        have p1 := pw5 (g := V 15 3) (by omega) (k := k.toNat) (by omega)
        have p2 := pw5 (g := V 15 3) (by omega) (k := (k + 1).toNat) (by omega)
        rw [pwS _ hk.1] at p2
        have hm := md_b (u / V 15 3 ^ k.toNat) (n := V 15 5) (by omega)
        have ht9 : 0 ≤ V 16 (u / V 15 3 ^ k.toNat % V 15 5) ∧ V 16 (u / V 15 3 ^ k.toNat % V 15 5) < V 15 3 := ht _ hm.1 hm.2
        have h0 : 0 ≤ u / V 15 3 ^ k.toNat := Int.ediv_nonneg hu.1 (by omega)
        have hi9 := imgF_b (T := V 16) (u := u) (show 1 ≤ V 15 3 by omega) (show 1 ≤ V 15 5 by omega) ht k.toNat
        have q0 : 0 ≤ V 15 3 ^ k.toNat * V 16 (u / V 15 3 ^ k.toNat % V 15 5) := Int.mul_nonneg (by omega) ht9.1
        have q1 : V 15 3 ^ k.toNat * V 16 (u / V 15 3 ^ k.toNat % V 15 5) ≤ 7776 * 6 := Int.mul_le_mul p1.2 (by omega) ht9.1 (by omega)
        refine j_il4 hX dX3_imageOf_18 ?_
        refine j_il5 hX dX3_imageOf_20 ?_
        refine j_al1 hX dX3_imageOf_22 rfl ?_
        refine j_il6 hX dX3_imageOf_23 ?_
        refine j_al1 hX dX3_imageOf_25 rfl ?_
        refine j_getI hX hG fl_X3_75 (Or.inl rfl) (by decide) dX3_imageOf_26 ?_
        refine j_pSI2 hX hG lk_X3_78 (ok_X11_remainder_in (by first | assumption | omega | decide) (by first | assumption | omega | decide)) (Nat.le_of_ble_eq_true rfl) (Nat.le_of_ble_eq_true rfl) (Nat.le_of_ble_eq_true rfl) rfl dX3_imageOf_29 ?_
        refine j_pVI1 (ci := 8) hX hG lk_X3_81 (ok_X8_gives (Or.inr (Or.inl rfl)) (by first | assumption | omega | decide)) (by decide) rfl (Nat.le_of_ble_eq_true rfl) (Nat.le_of_ble_eq_true rfl) (Nat.le_of_ble_eq_true rfl) rfl dX3_imageOf_32 ?_
        try dsimp only [Int.reduceAdd]
        refine j_imul hX dX3_imageOf_35 (by omega) ?_
        refine j_iadd hX dX3_imageOf_36 (by omega) ?_
        refine j_is4 hX dX3_imageOf_37 rfl ?_
        refine j_il5 hX dX3_imageOf_39 ?_
        refine j_al0 hX dX3_imageOf_41 rfl ?_
        refine j_getI hX hG fl_X3_27 (Or.inl rfl) (by decide) dX3_imageOf_42 ?_
        refine j_imul hX dX3_imageOf_45 (by rw [hst]; omega) ?_
        refine j_is5 hX dX3_imageOf_46 rfl ?_
        refine j_il6 hX dX3_imageOf_48 ?_
        refine j_al0 hX dX3_imageOf_50 rfl ?_
        refine j_getI hX hG fl_X3_27 (Or.inl rfl) (by decide) dX3_imageOf_51 ?_
        refine j_pSI2 hX hG lk_X3_85 (ok_X11_quotient_in (by first | assumption | omega | decide) (by first | assumption | omega | decide)) (Nat.le_of_ble_eq_true rfl) (Nat.le_of_ble_eq_true rfl) (Nat.le_of_ble_eq_true rfl) rfl dX3_imageOf_54 ?_
        refine j_is6 hX dX3_imageOf_57 rfl ?_
        refine j_inc7 hX dX3_imageOf_59 rfl (by omega) ?_
        refine j_goto (tgt := 12) hX dX3_imageOf_62 (by decide) ?_
        refine j_eqL (ls' := [vA 42, vA 15, vI u, vI v, vI (imgF (V 16) (V 15 3) (V 15 5) u (k + 1).toNat), vI (V 15 3 ^ (k + 1).toNat), vI (u / V 15 3 ^ (k + 1).toNat), vI (k + 1)]) (by rw [imgF_S hk.1, pwS _ hk.1, ← div_T (x := u) (j := k.toNat) (show 1 ≤ V 15 3 by omega), hst]) ?_
        exact ih_12 _ (by omega) (by omega)
  refine j_eqL (ls' := [vA 42, vA 15, vI u, vI v, vI (imgF (V 16) (V 15 3) (V 15 5) u (0 : Int).toNat), vI (V 15 3 ^ (0 : Int).toNat), vI (u / V 15 3 ^ (0 : Int).toNat), vI 0]) (by simp [imgF]) ?_
  exact lp_12 _ _ (by omega) (Nat.lt_succ_self _)
set_option maxHeartbeats 4000000 in
theorem ok_X3_samePlaces {V : VV} {a b : Int} (hg : 2 ≤ V 42 2 ∧ V 42 2 ≤ 6) (ho : 1 ≤ V 42 4 ∧ V 42 4 ≤ 8) (ha : 0 ≤ a) (hb : 0 ≤ b) : Ok NC yX3_samePlaces cX3_samePlaces 7 (some .int) 1 21 [vA 42, vI a, vI b] V (pI (fun x9 V' => V' = V ∧ ∀ p : Nat, p < 32 → (bt 32 x9 p = true ↔ (p : Int) < V 42 4 ∧ dg (V 42 2) a (V 42 4 - 1 - p).toNat = dg (V 42 2) b (V 42 4 - 1 - p).toNat))) := by
  refine Ok.intro (by decide +kernel) (Nat.le_of_ble_eq_true rfl) (fun X G hX hG hR hoa hoV => ?_)
  show J X G 0 [vA 42, vI a, vI b, vU, vU, vU, vU] [] V
  refine j_iconst hX dX3_samePlaces_0 ⟨by decide, by decide⟩ ?_
  refine j_is3 hX dX3_samePlaces_1 rfl ?_
  refine j_il1 hX dX3_samePlaces_2 ?_
  refine j_is4 hX dX3_samePlaces_3 rfl ?_
  refine j_il2 hX dX3_samePlaces_5 ?_
  refine j_is5 hX dX3_samePlaces_6 rfl ?_
  refine j_al0 hX dX3_samePlaces_8 rfl ?_
  refine j_getI hX hG fl_X3_35 (Or.inl rfl) (by decide) dX3_samePlaces_9 ?_
  refine j_iconst hX dX3_samePlaces_12 ⟨by decide, by decide⟩ ?_
  refine j_isub hX dX3_samePlaces_13 (by omega) ?_
  refine j_is6 hX dX3_samePlaces_14 rfl ?_
  have lp_16 : ∀ (f9 : Nat) (c j : Int), (0 ≤ j ∧ j ≤ V 42 4) → (∀ p : Nat, p < 32 → (bt 32 c p = true ↔ V 42 4 - 1 - j < p ∧ (p : Int) < V 42 4 ∧ dg (V 42 2) a (V 42 4 - 1 - p).toNat = dg (V 42 2) b (V 42 4 - 1 - p).toNat)) → ((V 42 4 - j).toNat) < f9 → J X G 16 [vA 42, vI a, vI b, vI c, vI (a / V 42 2 ^ j.toNat), vI (b / V 42 2 ^ j.toNat), vI (V 42 4 - 1 - j)] [] V := by
    intro f9
    induction f9 with
    | zero => intro c j _ _ hm; exact absurd hm (Nat.not_lt_zero _)
    | succ f9 ih_16 =>
      intro c j hj hc hm
      refine j_il6 hX dX3_samePlaces_16 ?_
      refine j_if_lt (tgt := 77) hX dX3_samePlaces_18 (by decide) (fun h_18 => ?_) (fun h_18 => ?_)
      · skip
        refine j_il3 hX dX3_samePlaces_77 ?_
        exact j_retI hR dX3_samePlaces_78 ⟨rfl, fun p hp => by rw [hc p hp]; constructor; (rintro ⟨h, h2⟩; exact h2); (rintro h; exact ⟨by omega, h⟩)⟩
      · skip
        have p1 := pw_pos hg.1 j.toNat
        have h0 : 0 ≤ a / V 42 2 ^ j.toNat := Int.ediv_nonneg ha (by omega)
        have h1 : 0 ≤ b / V 42 2 ^ j.toNat := Int.ediv_nonneg hb (by omega)
        refine j_il4 hX dX3_samePlaces_21 ?_
        refine j_al0 hX dX3_samePlaces_23 rfl ?_
        refine j_getI hX hG fl_X3_27 (Or.inl rfl) (by decide) dX3_samePlaces_24 ?_
        refine j_pSI2 hX hG lk_X3_78 (ok_X11_remainder_in (by first | assumption | omega | decide) (by first | assumption | omega | decide)) (Nat.le_of_ble_eq_true rfl) (Nat.le_of_ble_eq_true rfl) (Nat.le_of_ble_eq_true rfl) rfl dX3_samePlaces_27 ?_
        refine j_il5 hX dX3_samePlaces_30 ?_
        refine j_al0 hX dX3_samePlaces_32 rfl ?_
        refine j_getI hX hG fl_X3_27 (Or.inl rfl) (by decide) dX3_samePlaces_33 ?_
        refine j_pSI2 hX hG lk_X3_78 (ok_X11_remainder_in (by first | assumption | omega | decide) (by first | assumption | omega | decide)) (Nat.le_of_ble_eq_true rfl) (Nat.le_of_ble_eq_true rfl) (Nat.le_of_ble_eq_true rfl) rfl dX3_samePlaces_36 ?_
        refine j_icmp_ne (tgt := 49) hX dX3_samePlaces_39 (by decide) (fun h_39 => ?_) (fun h_39 => ?_)
        · skip
          refine j_il4 hX dX3_samePlaces_49 ?_
          refine j_al0 hX dX3_samePlaces_51 rfl ?_
          refine j_getI hX hG fl_X3_27 (Or.inl rfl) (by decide) dX3_samePlaces_52 ?_
          refine j_pSI2 hX hG lk_X3_85 (ok_X11_quotient_in (by first | assumption | omega | decide) (by first | assumption | omega | decide)) (Nat.le_of_ble_eq_true rfl) (Nat.le_of_ble_eq_true rfl) (Nat.le_of_ble_eq_true rfl) rfl dX3_samePlaces_55 ?_
          refine j_is4 hX dX3_samePlaces_58 rfl ?_
          refine j_il5 hX dX3_samePlaces_60 ?_
          refine j_al0 hX dX3_samePlaces_62 rfl ?_
          refine j_getI hX hG fl_X3_27 (Or.inl rfl) (by decide) dX3_samePlaces_63 ?_
          refine j_pSI2 hX hG lk_X3_85 (ok_X11_quotient_in (by first | assumption | omega | decide) (by first | assumption | omega | decide)) (Nat.le_of_ble_eq_true rfl) (Nat.le_of_ble_eq_true rfl) (Nat.le_of_ble_eq_true rfl) rfl dX3_samePlaces_66 ?_
          refine j_is5 hX dX3_samePlaces_69 rfl ?_
          refine j_inc6 hX dX3_samePlaces_71 rfl (by omega) ?_
          refine j_goto (tgt := 16) hX dX3_samePlaces_74 (by decide) ?_
          refine j_eqL4 (x' := a / V 42 2 ^ (j + 1).toNat) (y' := b / V 42 2 ^ (j + 1).toNat) (by rw [show (j + 1).toNat = j.toNat + 1 by omega, ← div_S (x := a) (j := j.toNat) (show 1 ≤ V 42 2 by omega)]) (by rw [show (j + 1).toNat = j.toNat + 1 by omega, ← div_S (x := b) (j := j.toNat) (show 1 ≤ V 42 2 by omega)]) (show V 42 4 - 1 - (j + 1) = V 42 4 - 1 - j + -1 by omega) ?_
          exact ih_16 _ _ (by omega) (fun p hp => by first | (rw [bt_or, Bool.or_eq_true, hc p hp, bt_pow1 hp, decide_eq_true_eq]; constructor; (rintro (⟨h, h2, h3⟩ | h); (exact ⟨by omega, h2, h3⟩); exact ⟨by omega, by omega, by rw [show V 42 4 - 1 - (p : Int) = j by omega]; exact h_39⟩); (rintro ⟨h, h2, h3⟩; by_cases e : (p : Int) = V 42 4 - 1 - j; exact Or.inr (by omega); exact Or.inl ⟨by omega, h2, h3⟩)) | (rw [hc p hp]; constructor; (rintro ⟨h, h2, h3⟩; exact ⟨by omega, h2, h3⟩); (rintro ⟨h, h2, h3⟩; refine ⟨?_, h2, h3⟩; by_cases e : (p : Int) = V 42 4 - 1 - j; (exfalso; apply h_39; rw [show V 42 4 - 1 - (p : Int) = j by omega] at h3; exact h3); omega))) (by omega)
        · skip
          refine j_il3 hX dX3_samePlaces_42 ?_
          refine j_iconst hX dX3_samePlaces_43 ⟨by decide, by decide⟩ ?_
          refine j_il6 hX dX3_samePlaces_44 ?_
          refine j_ishl hX dX3_samePlaces_46 (by omega) (p2_30 (by omega)) ?_
          refine j_ior hX dX3_samePlaces_47 ?_
          refine j_is3 hX dX3_samePlaces_48 rfl ?_
          refine j_il4 hX dX3_samePlaces_49 ?_
          refine j_al0 hX dX3_samePlaces_51 rfl ?_
          refine j_getI hX hG fl_X3_27 (Or.inl rfl) (by decide) dX3_samePlaces_52 ?_
          refine j_pSI2 hX hG lk_X3_85 (ok_X11_quotient_in (by first | assumption | omega | decide) (by first | assumption | omega | decide)) (Nat.le_of_ble_eq_true rfl) (Nat.le_of_ble_eq_true rfl) (Nat.le_of_ble_eq_true rfl) rfl dX3_samePlaces_55 ?_
          refine j_is4 hX dX3_samePlaces_58 rfl ?_
          refine j_il5 hX dX3_samePlaces_60 ?_
          refine j_al0 hX dX3_samePlaces_62 rfl ?_
          refine j_getI hX hG fl_X3_27 (Or.inl rfl) (by decide) dX3_samePlaces_63 ?_
          refine j_pSI2 hX hG lk_X3_85 (ok_X11_quotient_in (by first | assumption | omega | decide) (by first | assumption | omega | decide)) (Nat.le_of_ble_eq_true rfl) (Nat.le_of_ble_eq_true rfl) (Nat.le_of_ble_eq_true rfl) rfl dX3_samePlaces_66 ?_
          refine j_is5 hX dX3_samePlaces_69 rfl ?_
          refine j_inc6 hX dX3_samePlaces_71 rfl (by omega) ?_
          refine j_goto (tgt := 16) hX dX3_samePlaces_74 (by decide) ?_
          refine j_eqL4 (x' := a / V 42 2 ^ (j + 1).toNat) (y' := b / V 42 2 ^ (j + 1).toNat) (by rw [show (j + 1).toNat = j.toNat + 1 by omega, ← div_S (x := a) (j := j.toNat) (show 1 ≤ V 42 2 by omega)]) (by rw [show (j + 1).toNat = j.toNat + 1 by omega, ← div_S (x := b) (j := j.toNat) (show 1 ≤ V 42 2 by omega)]) (show V 42 4 - 1 - (j + 1) = V 42 4 - 1 - j + -1 by omega) ?_
          exact ih_16 _ _ (by omega) (fun p hp => by first | (rw [bt_or, Bool.or_eq_true, hc p hp, bt_pow1 hp, decide_eq_true_eq]; constructor; (rintro (⟨h, h2, h3⟩ | h); (exact ⟨by omega, h2, h3⟩); exact ⟨by omega, by omega, by rw [show V 42 4 - 1 - (p : Int) = j by omega]; exact h_39⟩); (rintro ⟨h, h2, h3⟩; by_cases e : (p : Int) = V 42 4 - 1 - j; exact Or.inr (by omega); exact Or.inl ⟨by omega, h2, h3⟩)) | (rw [hc p hp]; constructor; (rintro ⟨h, h2, h3⟩; exact ⟨by omega, h2, h3⟩); (rintro ⟨h, h2, h3⟩; refine ⟨?_, h2, h3⟩; by_cases e : (p : Int) = V 42 4 - 1 - j; (exfalso; apply h_39; rw [show V 42 4 - 1 - (p : Int) = j by omega] at h3; exact h3); omega))) (by omega)
  refine j_eqL (ls' := [vA 42, vI a, vI b, vI 0, vI (a / V 42 2 ^ (0 : Int).toNat), vI (b / V 42 2 ^ (0 : Int).toNat), vI (V 42 4 - 1 - 0)]) (by simp) ?_
  exact lp_16 _ _ _ (by omega) (fun p hp => by rw [bt_0]; constructor; (intro z; cases z); (rintro ⟨h, h2, -⟩; omega)) (Nat.lt_succ_self _)
set_option maxHeartbeats 4000000 in
theorem ok_X3_commonShifts {V : VV} {v : Int} (ho9 : RO V 15) (ht : TR V 15) (hst : V 42 2 = V 15 3) (hv : 1 ≤ v ∧ v ≤ 5) (hol : V 42 4 = v + V 15 4 - 1) (hpw : V 15 3 ^ (V 42 4).toNat ≤ 50000) : Ok NC yX3_commonShifts cX3_commonShifts 7 (some .int) 3 69 [vA 42, vA 15, vI v] V (pI (fun x9 V' => SHB (V 16) (V 15 3) (V 15 5) (V 15 3 ^ (V 42 4).toNat) v.toNat (V 42 4).toNat x9 ∧ 0 ≤ x9 ∧ (x9 ≠ 0 → OG V' (V 16) (V 15 3) (V 15 5) (V 15 3 ^ (V 42 4).toNat) v.toNat) ∧ fr [43] V V')) := by
  refine Ok.intro (by decide +kernel) (Nat.le_of_ble_eq_true rfl) (fun X G hX hG hR hoa hoV => ?_)
  show J X G 0 [vA 42, vA 15, vI v, vU, vU, vU, vU] [] V
  have hb9 := ho9.b
  have hpp := pw_pos hb9.1.1 (V 42 4).toNat
  refine j_al0 hX dX3_commonShifts_0 rfl ?_
  refine j_getR (q := 43) hX hG fl_X3_9 rfl rfl (by decide) dX3_commonShifts_1 ?_
  refine j_iconst hX dX3_commonShifts_4 ⟨by decide, by decide⟩ ?_
  refine j_cSV2 hX hG lk_X3_54 (ok_J7_fill_53178 (n := 7776) (by decide) (by first | assumption | decide)) (Nat.le_of_ble_eq_true rfl) (Nat.le_of_ble_eq_true rfl) (Nat.le_of_ble_eq_true rfl) rfl dX3_commonShifts_5 (fun V_5 h_5 => ?_)
  subst h_5
  have hsF : fr [43] V (fillV V 43 7776 (-1)) := fr_f fr_0 (by decide)
  refine j_iconst hX dX3_commonShifts_8 ⟨by decide, by decide⟩ ?_
  refine j_al0 hX dX3_commonShifts_9 rfl ?_
  refine j_getI hX hG fl_X3_35 (Or.inl rfl) (by decide) dX3_commonShifts_10 ?_
  refine j_eqS (st' := [vI (V 42 4), vI 1]) (by rw [fill_n _ (by decide)]) ?_
  refine j_ishl hX dX3_commonShifts_13 (by omega) (p2_30 (by omega)) ?_
  refine j_iconst hX dX3_commonShifts_14 ⟨by decide, by decide⟩ ?_
  refine j_isub hX dX3_commonShifts_15 (by have := p2_30 (y := V 42 4) (by omega); have := p2pos (V 42 4).toNat; omega) ?_
  refine j_is3 hX dX3_commonShifts_16 rfl ?_
  refine j_al0 hX dX3_commonShifts_17 rfl ?_
  refine j_getI hX hG fl_X3_27 (Or.inl rfl) (by decide) dX3_commonShifts_18 ?_
  refine j_al0 hX dX3_commonShifts_21 rfl ?_
  refine j_getI hX hG fl_X3_35 (Or.inl rfl) (by decide) dX3_commonShifts_22 ?_
  refine j_eqS (st' := [vI (V 42 4), vI (V 15 3)]) (by rw [fill_n _ (by decide), fill_n _ (by decide), hst]) ?_
  refine j_pSI2 hX hG lk_X3_38 (ok_X11_power (by omega) (by omega)) (Nat.le_of_ble_eq_true rfl) (Nat.le_of_ble_eq_true rfl) (Nat.le_of_ble_eq_true rfl) rfl dX3_commonShifts_25 ?_
  refine j_is4 hX dX3_commonShifts_28 rfl ?_
  refine j_iconst hX dX3_commonShifts_30 ⟨by decide, by decide⟩ ?_
  refine j_is5 hX dX3_commonShifts_31 rfl ?_
  have lp_33 : ∀ (f9 : Nat) (sh u : Int) (W : VV), (0 ≤ u ∧ u ≤ V 15 3 ^ (V 42 4).toNat) → (fr [43] V W) → (SHB (V 16) (V 15 3) (V 15 5) u v.toNat (V 42 4).toNat sh) → (OG W (V 16) (V 15 3) (V 15 5) u v.toNat) → ((V 15 3 ^ (V 42 4).toNat - u).toNat) < f9 → J X G 33 [vA 42, vA 15, vI v, vI sh, vI (V 15 3 ^ (V 42 4).toNat), vI u, vU] [] W := by
    intro f9
    induction f9 with
    | zero => intro sh u W _ _ _ _ hm; exact absurd hm (Nat.not_lt_zero _)
    | succ f9 ih_33 =>
      intro sh u W hu hs hSH hOG hm
      refine j_il5 hX dX3_commonShifts_33 ?_
      refine j_il4 hX dX3_commonShifts_35 ?_
      refine j_icmp_ge (tgt := 105) hX dX3_commonShifts_37 (by decide) (fun h_37 => ?_) (fun h_37 => ?_)
      · skip
        refine j_il3 hX dX3_commonShifts_105 ?_
        refine j_rngI fun hrs => ?_
        exact j_retI hR dX3_commonShifts_106 (by have h0 : 0 ≤ sh := nneg32 hrs (by cases e : bt 32 sh 31 with | false => rfl | true => (have := ((hSH 31 (by decide)).mp e).1; omega)); first | (have hue : u = V 15 3 ^ (V 42 4).toNat := (by omega); rw [hue] at hSH hOG; exact ⟨hSH, h0, fun _ => hOG, hs⟩) | (refine ⟨fun p hp => ⟨fun q => ?_, fun q => ?_⟩, h0, fun q => absurd h_41 q, hs⟩; (rw [h_41, bt_0] at q; cases q); exact (hSH p hp).mpr ⟨q.1, fun x y x0 x1 y0 y1 e => q.2 x y x0 (by omega) y0 (by omega) e⟩))
      · skip
        refine j_il3 hX dX3_commonShifts_40 ?_
        refine j_if_eq (tgt := 105) hX dX3_commonShifts_41 (by decide) (fun h_41 => ?_) (fun h_41 => ?_)
        · skip
          refine j_il3 hX dX3_commonShifts_105 ?_
          refine j_rngI fun hrs => ?_
          exact j_retI hR dX3_commonShifts_106 (by have h0 : 0 ≤ sh := nneg32 hrs (by cases e : bt 32 sh 31 with | false => rfl | true => (have := ((hSH 31 (by decide)).mp e).1; omega)); first | (have hue : u = V 15 3 ^ (V 42 4).toNat := (by omega); rw [hue] at hSH hOG; exact ⟨hSH, h0, fun _ => hOG, hs⟩) | (refine ⟨fun p hp => ⟨fun q => ?_, fun q => ?_⟩, h0, fun q => absurd h_41 q, hs⟩; (rw [h_41, bt_0] at q; cases q); exact (hSH p hp).mpr ⟨q.1, fun x y x0 x1 y0 y1 e => q.2 x y x0 (by omega) y0 (by omega) e⟩))
        · skip
          have q5 : W 15 5 = V 15 5 := hs 15 5 (by decide)
          have q3 : W 15 3 = V 15 3 := hs 15 3 (by decide)
          have q16 : W 16 = V 16 := funext fun b => hs 16 b (by decide)
          have q42 : ∀ b, W 42 b = V 42 b := fun b => hs 42 b (by decide)
          have roW : RO W 15 := ho9.sm (fun b => hs 15 b (by decide))
          have trW : TR W 15 := fun e h0 h1 => by rw [show W (15 + 1) e = V (15 + 1) e from hs 16 e (by decide), q3]; exact ht e h0 (by rw [q5] at h1; exact h1)
          have hib := imgF_b (T := V 16) (u := u) (show 1 ≤ V 15 3 by omega) (show 1 ≤ V 15 5 by omega) ht v.toNat
          have hp5 := pw5 (g := V 15 3) (by omega) (k := v.toNat) (by omega)
          refine j_al0 hX dX3_commonShifts_44 rfl ?_
          refine j_al1 hX dX3_commonShifts_45 rfl ?_
          refine j_il5 hX dX3_commonShifts_46 ?_
          refine j_il2 hX dX3_commonShifts_48 ?_
          refine j_pVI3 (ci := 3) hX hG lk_X3_60 (ok_X3_imageOf roW trW (by rw [q42, q3]; exact hst) (by first | assumption | omega | decide) (by first | assumption | omega | decide)) (by decide) rfl (Nat.le_of_ble_eq_true rfl) (Nat.le_of_ble_eq_true rfl) (Nat.le_of_ble_eq_true rfl) rfl dX3_commonShifts_49 ?_
          refine j_eqS (st' := [vI (imgF (V 16) (V 15 3) (V 15 5) u v.toNat)]) (by rw [q16, q3, q5]) ?_
          obtain ⟨hI, eI⟩ : ∃ hI, hI = imgF (V 16) (V 15 3) (V 15 5) u v.toNat := ⟨_, rfl⟩
          rw [← eI] at hib ⊢
          refine j_is6 hX dX3_commonShifts_52 rfl ?_
          refine j_al0 hX dX3_commonShifts_54 rfl ?_
          refine j_getR (q := 43) hX hG fl_X3_9 rfl rfl (by decide) dX3_commonShifts_55 ?_
          refine j_il6 hX dX3_commonShifts_58 ?_
          refine j_pSI2 hX hG lk_X3_64 (ok_X11_at_in (n := 7776) (by decide) (by first | assumption | decide) (by omega)) (Nat.le_of_ble_eq_true rfl) (Nat.le_of_ble_eq_true rfl) (Nat.le_of_ble_eq_true rfl) rfl dX3_commonShifts_60 ?_
          refine j_iconst hX dX3_commonShifts_63 ⟨by decide, by decide⟩ ?_
          refine j_icmp_ne (tgt := 81) hX dX3_commonShifts_64 (by decide) (fun h_64 => ?_) (fun h_64 => ?_)
          · skip
            have hO : 0 ≤ W 43 hI ∧ W 43 hI < u ∧ imgF (V 16) (V 15 3) (V 15 5) (W 43 hI) v.toNat = imgF (V 16) (V 15 3) (V 15 5) u v.toNat := (hOG hI hib.1 (by omega)).elim (fun h => absurd h.1 h_64) (fun h => ⟨h.1, h.2.1, by rw [h.2.2, eI]⟩)
            refine j_il3 hX dX3_commonShifts_81 ?_
            refine j_al0 hX dX3_commonShifts_82 rfl ?_
            refine j_al0 hX dX3_commonShifts_83 rfl ?_
            refine j_getR (q := 43) hX hG fl_X3_9 rfl rfl (by decide) dX3_commonShifts_84 ?_
            refine j_il6 hX dX3_commonShifts_87 ?_
            refine j_pSI2 hX hG lk_X3_64 (ok_X11_at_in (n := 7776) (by decide) (by first | assumption | decide) (by omega)) (Nat.le_of_ble_eq_true rfl) (Nat.le_of_ble_eq_true rfl) (Nat.le_of_ble_eq_true rfl) rfl dX3_commonShifts_89 ?_
            refine j_il5 hX dX3_commonShifts_92 ?_
            refine j_cVI2 (ci := 3) hX hG lk_X3_72 (ok_X3_samePlaces (by rw [q42]; omega) (by rw [q42]; omega) hO.1 hu.1) (by decide) rfl (Nat.le_of_ble_eq_true rfl) (Nat.le_of_ble_eq_true rfl) (Nat.le_of_ble_eq_true rfl) rfl dX3_commonShifts_94 (fun x_94 V_94 h_94 => ?_)
            obtain ⟨e_94, z_94⟩ := h_94
            have e9_94 := e_94.symm
            subst e9_94
            have zB : ∀ p : Nat, p < 32 → (bt 32 x_94 p = true ↔ p < (V 42 4).toNat ∧ dg (V 15 3) (W 43 hI) (((V 42 4).toNat : Int) - 1 - (p : Int)).toNat = dg (V 15 3) u (((V 42 4).toNat : Int) - 1 - (p : Int)).toNat) := fun p hp => by rw [z_94 p hp, q42, q42, hst, show (((V 42 4).toNat : Nat) : Int) = V 42 4 by omega, show ((p : Int) < V 42 4 ↔ p < (V 42 4).toNat) from ⟨fun h => by omega, fun h => by omega⟩]
            refine j_iand hX dX3_commonShifts_97 ?_
            refine j_is3 hX dX3_commonShifts_98 rfl ?_
            refine j_inc5 hX dX3_commonShifts_99 rfl (by omega) ?_
            refine j_goto (tgt := 33) hX dX3_commonShifts_102 (by decide) ?_
            refine j_fg6 ?_
            exact ih_33 _ _ _ (by omega) (by first | exact fr_u hs (by decide) | exact hs) (by first | exact SHB_old hSH (x0 := W 43 hI) ⟨hO.1, hO.2.1⟩ hO.2.2 hu.1 zB | exact SHB_new hSH hN) (by first | exact OG_old hOG (x0 := W 43 hI) ⟨hO.1, hO.2.1⟩ hO.2.2 | exact OG_new hOG hu.1 hN) (by omega)
          · skip
            have hN : ∀ x, 0 ≤ x → x < u → imgF (V 16) (V 15 3) (V 15 5) x v.toNat ≠ imgF (V 16) (V 15 3) (V 15 5) u v.toNat := (hOG hI hib.1 (by omega)).elim (fun h => eI ▸ h.2) (fun h => by omega)
            subst eI
            refine j_al0 hX dX3_commonShifts_67 rfl ?_
            refine j_getR (q := 43) hX hG fl_X3_9 rfl rfl (by decide) dX3_commonShifts_68 ?_
            refine j_il6 hX dX3_commonShifts_71 ?_
            refine j_il5 hX dX3_commonShifts_73 ?_
            refine j_cSV3 hX hG lk_X3_68 (ok_X11_put_in (n := 7776) (by decide) (by first | assumption | decide) (by omega)) (Nat.le_of_ble_eq_true rfl) (Nat.le_of_ble_eq_true rfl) (Nat.le_of_ble_eq_true rfl) rfl dX3_commonShifts_75 (fun V_75 h_75 => ?_)
            subst h_75
            refine j_goto (tgt := 99) hX dX3_commonShifts_78 (by decide) ?_
            refine j_inc5 hX dX3_commonShifts_99 rfl (by omega) ?_
            refine j_goto (tgt := 33) hX dX3_commonShifts_102 (by decide) ?_
            refine j_fg6 ?_
            exact ih_33 _ _ _ (by omega) (by first | exact fr_u hs (by decide) | exact hs) (by first | exact SHB_old hSH (x0 := W 43 hI) ⟨hO.1, hO.2.1⟩ hO.2.2 hu.1 zB | exact SHB_new hSH hN) (by first | exact OG_old hOG (x0 := W 43 hI) ⟨hO.1, hO.2.1⟩ hO.2.2 | exact OG_new hOG hu.1 hN) (by omega)
  exact lp_33 _ _ _ _ ⟨by decide, by omega⟩ hsF (SHB_0 (by omega)) (fun c h0 h1 => Or.inl ⟨fill_in _ h0 h1, fun x x0 x1 => by omega⟩) (Nat.lt_succ_self _)
