/-! rings before a ring: the first one -/
/-- from a node one can come back to s over j edges, the last of which has the label of place n - 1 -/
def rtN (T lab : Int → Int) (g N n L s : Int) : Nat → Int → Prop
  | 0, v => v = s
  | j + 1, v => ∃ e, (0 ≤ e ∧ e < n) ∧ T e = lab (L - 1 - j) ∧ e / g = v ∧ rtN T lab g N n L s j (e % N)
theorem rt_S {T lab : Int → Int} {g N n L s : Int} {k : Int} (h0 : 0 ≤ k) (h1 : k < L) {v : Int} : rtN T lab g N n L s (L - k).toNat v ↔ ∃ e, (0 ≤ e ∧ e < n) ∧ T e = lab k ∧ e / g = v ∧ rtN T lab g N n L s (L - (k + 1)).toNat (e % N) := by
  rw [show (L - k).toNat = (L - (k + 1)).toNat + 1 by omega]
  show (∃ e, (0 ≤ e ∧ e < n) ∧ T e = lab (L - 1 - ((L - (k + 1)).toNat : Int)) ∧ _) ↔ _
  rw [show L - 1 - (((L - (k + 1)).toNat : Nat) : Int) = k by omega]
def labF (R : Int → Int) (w L k : Int) : Int := R ((k + w - 2) % L)
def SOL (T : Int → Int) (g w L : Int) (R x : Int → Int) : Prop := (∀ k, 0 ≤ k → k < L → 0 ≤ x k ∧ x k < g) ∧ ∀ k, 0 ≤ k → k < L → stepF T g w L x k = R k
def LEX (L : Int) (x y : Int → Int) : Prop := (∀ k, 0 ≤ k → k < L → x k = y k) ∨ ∃ k, 0 ≤ k ∧ k < L ∧ x k < y k ∧ ∀ j, 0 ≤ j → j < k → x j = y j
def FST (T : Int → Int) (g w L : Int) (R x : Int → Int) : Prop := SOL T g w L R x ∧ ∀ y, SOL T g w L R y → LEX L x y
theorem FST_u {T : Int → Int} {g w L : Int} {R x y : Int → Int} (h : FST T g w L R x) (h' : FST T g w L R y) : ∀ k, 0 ≤ k → k < L → x k = y k := by
  rcases h.2 y h'.1 with a | ⟨k, k0, k1, k2, k3⟩
  · exact a
  · rcases h'.2 x h.1 with b | ⟨j, j0, j1, j2, j3⟩
    · exact fun k k0 k1 => (b k k0 k1).symm
    · exfalso
      rcases Int.lt_trichotomy k j with q | q | q
      · have := j3 k k0 q; omega
      · subst q; omega
      · have := k3 j j0 q; omega
/-- the node at a place of a ring, the word at a place -/
def ndF (g w L : Int) (x : Int → Int) (k : Int) : Int := if w = 2 then x (k % L) else x (k % L) * g + x ((k + 1) % L)
def edF (g w L : Int) (x : Int → Int) (k : Int) : Int := if w = 2 then x (k % L) * g + x ((k + 1) % L) else (x (k % L) * g + x ((k + 1) % L)) * g + x ((k + 2) % L)
theorem ed_dm {g w L N : Int} {x : Int → Int} (hw : w = 2 ∧ N = g ∨ w = 3 ∧ N = g * g) (hg : 2 ≤ g) (hL : 1 ≤ L) (hx : ∀ k, 0 ≤ k → k < L → 0 ≤ x k ∧ x k < g) (k : Int) :
    (0 ≤ edF g w L x k ∧ edF g w L x k < N * g) ∧ edF g w L x k / g = ndF g w L x k ∧ edF g w L x k % N = ndF g w L x (k + 1) ∧ (0 ≤ ndF g w L x k ∧ ndF g w L x k < N) := by
  have m := fun k => hx _ (md_b k hL).1 (md_b k hL).2
  have a := m k; have b := m (k + 1); have c := m (k + 2)
  rcases hw with ⟨hw, hN⟩ | ⟨hw, hN⟩
  · unfold edF ndF
    rw [if_pos hw, if_pos hw, if_pos hw, hN]
    have d := dm_of (p := x (k % L)) b
    have w1 := wd_b (N := g) (by omega) a b
    exact ⟨w1, d.1, d.2, a⟩
  · unfold edF ndF
    have e : ¬ w = 2 := by omega
    rw [if_neg e, if_neg e, if_neg e, hN, show k + 1 + 1 = k + 2 by omega]
    have w1 := wd_b (N := g) (by omega) a b
    have w2 := wd_b (N := g * g) (by omega) w1 c
    have w3 := wd_b (N := g) (by omega) b c
    have d := dm_of (p := x (k % L) * g + x ((k + 1) % L)) c
    refine ⟨w2, d.1, ?_, w1⟩
    have e2 : (x (k % L) * g + x ((k + 1) % L)) * g + x ((k + 2) % L) = x (k % L) * (g * g) + (x ((k + 1) % L) * g + x ((k + 2) % L)) := by
      rw [Int.add_mul, Int.mul_assoc]; omega
    rw [e2]
    exact (dm_of (p := x (k % L)) (g := g * g) w3).2
theorem ed_step {T : Int → Int} {g w L : Int} {x : Int → Int} (hw : 2 ≤ w ∧ w ≤ 3) (hL : 1 ≤ L) (k : Int) : T (edF g w L x k) = stepF T g w L x ((k + w - 2) % L) := by
  unfold edF stepF
  by_cases e : w = 2
  · rw [if_pos e, if_pos e, e, show k + 2 - 2 = k by omega, Int.emod_add_emod]
  · have e3 : w = 3 := by omega
    rw [if_neg e, if_neg e, e3, show k + 3 - 2 = k + 1 by omega, Int.emod_add_emod, show k + 1 + 1 = k + 2 by omega]
    rw [show ((k + 1) % L - 1) % L = k % L by rw [Int.sub_emod, Int.emod_emod_of_dvd _ (Int.dvd_refl L), ← Int.sub_emod, show k + 1 - 1 = k by omega]]
theorem nd_per {g w L : Int} {x : Int → Int} (k : Int) : ndF g w L x (k + L) = ndF g w L x k := by
  unfold ndF
  rw [Int.add_emod_right, show k + L + 1 = k + 1 + L by omega, Int.add_emod_right]
/-- a solution is a closed walk -/
theorem SOL_rt {T : Int → Int} {g w L N n : Int} {R x : Int → Int} (hw : w = 2 ∧ N = g ∨ w = 3 ∧ N = g * g) (hg : 2 ≤ g) (hL : 1 ≤ L) (hn : n = N * g) (h : SOL T g w L R x) : ∀ j : Nat, (j : Int) ≤ L → rtN T (labF R w L) g N n L (ndF g w L x 0) j (ndF g w L x (L - j))
  | 0, _ => by
    show ndF g w L x (L - ((0 : Nat) : Int)) = ndF g w L x 0
    have := nd_per (g := g) (w := w) (L := L) (x := x) 0
    rw [Int.zero_add] at this
    simpa using this
  | j + 1, hj => by
    have ih := SOL_rt hw hg hL hn h j (by omega)
    have e := ed_dm hw hg hL h.1 (L - ((j + 1 : Nat) : Int))
    refine ⟨edF g w L x (L - ((j + 1 : Nat) : Int)), ⟨e.1.1, by rw [hn]; exact e.1.2⟩, ?_, e.2.1, ?_⟩
    · rw [ed_step (T := T) (show 2 ≤ w ∧ w ≤ 3 by omega) hL]
      have m := md_b (L - ((j + 1 : Nat) : Int) + w - 2) hL
      rw [h.2 _ m.1 m.2]
      unfold labF
      rw [show L - ((j + 1 : Nat) : Int) = L - 1 - j by push_cast; omega]
    · rw [e.2.2.1, show L - ((j + 1 : Nat) : Int) + 1 = L - j by push_cast; omega]
      exact ih
/-- the nodes of a walk: where the one at k + 1 is the least that goes on -/
def WLK (T : Int → Int) (R : Int → Int) (g N n w L s : Int) (nd : Int → Int) : Prop := nd 0 = s ∧ nd L = s ∧ ∀ k, 0 ≤ k → k < L → (∃ e, (0 ≤ e ∧ e < n) ∧ T e = labF R w L k ∧ e / g = nd k ∧ e % N = nd (k + 1)) ∧ rtN T (labF R w L) g N n L s (L - (k + 1)).toNat (nd (k + 1)) ∧
  ∀ e, (0 ≤ e ∧ e < n) → T e = labF R w L k → e / g = nd k → rtN T (labF R w L) g N n L s (L - (k + 1)).toNat (e % N) → nd (k + 1) ≤ e % N
theorem ndx {T : Int → Int} {R : Int → Int} {g N n w L s : Int} {nd : Int → Int} (hw : w = 2 ∧ N = g ∨ w = 3 ∧ N = g * g) (hg : 2 ≤ g) (hL : 1 ≤ L) (hn : n = N * g) (h : WLK T R g N n w L s nd) :
    (∀ k, 0 ≤ k → k ≤ L → 0 ≤ nd k ∧ nd k < N) ∧ ∀ k, 0 ≤ k → k ≤ L → nd k = ndF g w L (fun k => nd k * g / N) k := by
  obtain ⟨h0, hLs, hk⟩ := h
  have hN : 1 ≤ N := by
    rcases hw with ⟨-, e⟩ | ⟨-, e⟩ <;> rw [e]
    · omega
    · have := Int.mul_le_mul (a := 1) (b := 1) (c := g) (d := g) (by omega) (by omega) (by omega) (by omega); omega
  have hb : ∀ k, 0 ≤ k → k < L → (0 ≤ nd k ∧ nd k < N) ∧ 0 ≤ nd (k + 1) ∧ nd (k + 1) < N := fun k k0 k1 => by
    obtain ⟨⟨e, ⟨e0, e1⟩, -, e2, e3⟩, -⟩ := hk k k0 k1
    have m := md_b e hN
    rw [← e2, ← e3]
    exact ⟨⟨Int.ediv_nonneg e0 (by omega), Int.ediv_lt_of_lt_mul (by omega) (by rw [← hn]; exact e1)⟩, m⟩
  have hb' : ∀ k, 0 ≤ k → k ≤ L → 0 ≤ nd k ∧ nd k < N := fun k k0 k1 => by
    by_cases q : k < L
    · exact (hb k k0 q).1
    · have := (hb (L - 1) (by omega) (by omega)).2
      rw [show L - 1 + 1 = k by omega] at this; exact this
  refine ⟨hb', fun k k0 k1 => ?_⟩
  have kL : nd (k % L) = nd k := by
    by_cases q : k < L
    · rw [Int.emod_eq_of_lt k0 q]
    · rw [show k = L by omega, Int.emod_self, h0, hLs]
  rcases hw with ⟨hw, hN2⟩ | ⟨hw, hN2⟩
  · unfold ndF
    rw [if_pos hw]
    show nd k = nd (k % L) * g / N
    rw [kL, hN2, Int.mul_ediv_cancel _ (by omega)]
  · unfold ndF
    rw [if_neg (by omega)]
    show nd k = nd (k % L) * g / N * g + nd ((k + 1) % L) * g / N
    have dv : ∀ z, z * g / N = z / g := fun z => by rw [hN2, Int.mul_ediv_mul_of_pos_left _ _ (by omega)]
    rw [dv, dv, kL]
    have key : nd ((k + 1) % L) / g = nd k % g := by
      -- the node behind node k begins as node k ends
      have st : ∀ j, 0 ≤ j → j < L → nd (j + 1) / g = nd j % g := fun j j0 j1 => by
        obtain ⟨⟨e, ⟨e0, e1⟩, -, e2, e3⟩, -⟩ := hk j j0 j1
        rw [← e2, ← e3, hN2]
        have a1 : e / g / g = e / (g * g) := Int.ediv_ediv_of_nonneg (by omega)
        have d1 := Int.mul_ediv_add_emod e (g * g)
        have d2 := Int.mul_ediv_add_emod (e / g) g
        have d3 := Int.mul_ediv_add_emod e g
        have b1 := md_b e (n := g * g) (by rw [← hN2]; exact hN)
        have b2 := md_b e (n := g) (by omega)
        have b3 := md_b (e / g) (n := g) (by omega)
        rw [a1] at d2
        have e4 : e % (g * g) = (e / g % g) * g + e % g := by
          have c1 : g * (g * (e / (g * g)) + e / g % g) + e % g = e := by rw [d2]; exact d3
          rw [Int.mul_add, ← Int.mul_assoc] at c1
          have c2 : g * (e / g % g) = e / g % g * g := Int.mul_comm ..
          omega
        rw [e4]
        exact (dm_of b2).1
      by_cases q : k < L
      · have s1 := st k k0 q
        by_cases q2 : k + 1 < L
        · rw [Int.emod_eq_of_lt (by omega) q2]; exact s1
        · rw [show k + 1 = L by omega, Int.emod_self, h0, ← hLs, ← show k + 1 = L by omega]; exact s1
      · have e1 : k = L := by omega
        subst e1
        have s1 := st 0 (by decide) (by omega)
        rw [Int.zero_add] at s1
        rw [Int.add_emod_left, hLs, ← h0]
        by_cases q2 : 1 < k
        · rw [Int.emod_eq_of_lt (by decide) q2]; exact s1
        · have e1 : k = 1 := by omega
          rw [e1] at hLs ⊢
          rw [Int.emod_self, h0, ← hLs]
          rw [h0, ← hLs] at s1; exact s1
    rw [key, dm_id]
theorem SOL_of {T : Int → Int} {R : Int → Int} {g N n w L s : Int} {nd : Int → Int} (hw : w = 2 ∧ N = g ∨ w = 3 ∧ N = g * g) (hg : 2 ≤ g) (hL : 1 ≤ L) (hn : n = N * g) (h : WLK T R g N n w L s nd) : SOL T g w L R (fun k => nd k * g / N) := by
  obtain ⟨hb, hx⟩ := ndx hw hg hL hn h
  have hN : 1 ≤ N := by have := hb 0 (Int.le_refl _) (by omega); omega
  have hr : ∀ k, 0 ≤ k → k < L → 0 ≤ nd k * g / N ∧ nd k * g / N < g := fun k k0 k1 => by
    have b := hb k k0 (by omega)
    exact ⟨Int.ediv_nonneg (Int.mul_nonneg b.1 (by omega)) (by omega), Int.ediv_lt_of_lt_mul (by omega) (by rw [Int.mul_comm g]; exact Int.mul_lt_mul_of_pos_right b.2 (by omega))⟩
  refine ⟨hr, ?_⟩
  have st : ∀ j, 0 ≤ j → j < L → stepF T g w L (fun k => nd k * g / N) ((j + w - 2) % L) = R ((j + w - 2) % L) := fun j j0 j1 => by
    obtain ⟨⟨e, ⟨e0, e1⟩, e4, e2, e3⟩, -⟩ := h.2.2 j j0 j1
    rw [← ed_step (by omega) hL]
    have d := ed_dm (x := fun k => nd k * g / N) hw hg hL hr j
    have ee : edF g w L (fun k => nd k * g / N) j = e := by
      have q1 : edF g w L (fun k => nd k * g / N) j / g = e / g := by rw [d.2.1, ← hx j j0 (by omega), e2]
      have q2 : edF g w L (fun k => nd k * g / N) j % g = e % g := by
        have hNg : g ∣ N := by
          rcases hw with ⟨-, e⟩ | ⟨-, e⟩ <;> rw [e]
          · exact Int.dvd_refl g
          · exact Int.dvd_mul_right g g
        have q3 : edF g w L (fun k => nd k * g / N) j % N = e % N := by rw [d.2.2.1, ← hx (j + 1) (by omega) (by omega), e3]
        rw [← Int.emod_emod_of_dvd _ hNg, q3, Int.emod_emod_of_dvd _ hNg]
      rw [← dm_id (e := edF g w L (fun k => nd k * g / N) j) (g := g), q1, q2, dm_id]
    rw [ee, e4]; rfl
  intro k k0 k1
  have m := md_b (k - w + 2) hL
  have := st _ m.1 m.2
  rw [show ((k - w + 2) % L + w - 2) % L = k by
    rw [show (k - w + 2) % L + w - 2 = (k - w + 2) % L + (w - 2) by omega, Int.emod_add_emod, show k - w + 2 + (w - 2) = k by omega, Int.emod_eq_of_lt k0 k1]] at this
  exact this
theorem FST_of {T : Int → Int} {R : Int → Int} {g N n w L s : Int} {nd : Int → Int} (hw : w = 2 ∧ N = g ∨ w = 3 ∧ N = g * g) (hg : 2 ≤ g) (hL : 1 ≤ L) (hn : n = N * g) (h : WLK T R g N n w L s nd) (hs : ∀ z, 0 ≤ z → z < s → ¬ rtN T (labF R w L) g N n L z L.toNat z) : FST T g w L R (fun k => nd k * g / N) := by
  have hso := SOL_of hw hg hL hn h
  refine ⟨hso, fun y hy => ?_⟩
  obtain ⟨hb, hx⟩ := ndx hw hg hL hn h
  have dy := fun k => ed_dm hw hg hL hy.1 k
  have hrt := SOL_rt hw hg hL hn hy
  -- where the nodes part, the lesser one is on our side
  have cmp : ∀ k, 0 ≤ k → k ≤ L → ndF g w L y k = nd k ∨ LEX L (fun k => nd k * g / N) y := by
    have hstart : s ≤ ndF g w L y 0 := by
      have h1 := hrt L.toNat (by omega)
      rw [show L - ((L.toNat : Nat) : Int) = 0 by omega] at h1
      have d0 := (dy 0).2.2.2
      exact Classical.byContradiction fun q => hs _ d0.1 (by omega) h1
    have part : ∀ k, 0 ≤ k → k ≤ L → nd k < ndF g w L y k → (∀ j, 0 ≤ j → j < k → ndF g w L y j = nd j) → (k = L → False) → LEX L (fun k => nd k * g / N) y := fun k k0 k1 hlt heq hkL => by
      have kl : k < L := by
        by_cases q : k = L
        · exact absurd q hkL
        · omega
      have xk := hx k k0 k1
      have eqj : ∀ j, 0 ≤ j → j < k → nd j * g / N = y j := fun j j0 j1 => by
        have a := heq j j0 j1
        rw [hx j j0 (by omega)] at a
        have b1 := hso.1 _ (md_b (j + 1) hL).1 (md_b (j + 1) hL).2
        have b2 := hy.1 _ (md_b (j + 1) hL).1 (md_b (j + 1) hL).2
        unfold ndF at a
        by_cases e : w = 2
        · rw [if_pos e, if_pos e, Int.emod_eq_of_lt j0 (by omega)] at a; exact a.symm
        · rw [if_neg e, if_neg e, Int.emod_eq_of_lt j0 (by omega)] at a
          have c1 := (dm_of (p := y j) b2).1
          have c2 := (dm_of (p := nd j * g / N) b1).1
          rw [a] at c1
          exact c2.symm.trans c1
      rw [xk] at hlt
      unfold ndF at hlt
      by_cases e : w = 2
      · rw [if_pos e, if_pos e, Int.emod_eq_of_lt k0 kl] at hlt
        exact Or.inr ⟨k, k0, kl, hlt, eqj⟩
      · rw [if_neg e, if_neg e, Int.emod_eq_of_lt k0 kl] at hlt
        have b1 := hso.1 _ (md_b (k + 1) hL).1 (md_b (k + 1) hL).2
        have b2 := hy.1 _ (md_b (k + 1) hL).1 (md_b (k + 1) hL).2
        rcases Int.lt_trichotomy (nd k * g / N) (y k) with q | q | q
        · exact Or.inr ⟨k, k0, kl, q, eqj⟩
        · have hlt2 : nd k * g / N * g + nd ((k + 1) % L) * g / N < y k * g + y ((k + 1) % L) := hlt
          rw [q] at hlt2
          by_cases q2 : k + 1 < L
          · rw [Int.emod_eq_of_lt (by omega) q2] at hlt2
            refine Or.inr ⟨k + 1, by omega, q2, by show nd (k + 1) * g / N < y (k + 1); omega, fun j j0 j1 => ?_⟩
            by_cases q3 : j = k
            · rw [q3]; exact q
            · exact eqj j j0 (by omega)
          · exfalso
            rw [show k + 1 = L by omega, Int.emod_self] at hlt2
            by_cases q3 : k = 0
            · rw [q3] at q hlt2; omega
            · have := eqj 0 (Int.le_refl _) (by omega); omega
        · exfalso
          have hlt2 : nd k * g / N * g + nd ((k + 1) % L) * g / N < y k * g + y ((k + 1) % L) := hlt
          have := Int.mul_le_mul_of_nonneg_right (c := g) (show y k + 1 ≤ nd k * g / N by omega) (by omega)
          rw [Int.add_mul, Int.one_mul] at this
          have b1' : 0 ≤ nd ((k + 1) % L) * g / N := b1.1
          omega
    have ind : ∀ m : Nat, (m : Int) ≤ L → (∀ j : Int, 0 ≤ j → j ≤ m → ndF g w L y j = nd j) ∨ LEX L (fun k => nd k * g / N) y := by
      intro m
      induction m with
      | zero =>
        intro _
        rcases Int.lt_or_eq_of_le hstart with q | q
        · right
          exact part 0 (Int.le_refl _) (by omega) (by rw [h.1]; exact q) (fun j j0 j1 => by omega) (by omega)
        · left
          intro j j0 j1
          rw [show j = 0 by omega, h.1]; exact q.symm
      | succ m ih =>
        intro hm
        rcases ih (by omega) with a | a
        · have e0 : ndF g w L y 0 = s := by rw [a 0 (Int.le_refl _) (by omega), h.1]
          by_cases q : ndF g w L y ((m : Int) + 1) = nd ((m : Int) + 1)
          · left
            intro j j0 j1
            by_cases q2 : j = (m : Int) + 1
            · rw [q2]; exact q
            · exact a j j0 (by omega)
          · right
            obtain ⟨-, -, hle⟩ := h.2.2 m (by omega) (by omega)
            have d := dy m
            have h2 := hle (edF g w L y m) ⟨d.1.1, by rw [hn]; exact d.1.2⟩ (by
              rw [ed_step (T := T) (show 2 ≤ w ∧ w ≤ 3 by omega) hL]
              have mm := md_b ((m : Int) + w - 2) hL
              rw [hy.2 _ mm.1 mm.2]; rfl) (by rw [d.2.1]; exact a m (by omega) (by omega)) (by
              rw [d.2.2.1]
              have h3 := hrt (L - (m + 1)).toNat (by omega)
              rw [show L - (((L - ((m : Int) + 1)).toNat : Nat) : Int) = (m : Int) + 1 by omega, e0] at h3
              exact h3)
            rw [d.2.2.1] at h2
            refine part ((m : Int) + 1) (by omega) (by omega) (by omega) (fun j j0 j1 => a j j0 (by omega)) (fun hz => q ?_)
            rw [hz, h.2.1]
            have := nd_per (g := g) (w := w) (L := L) (x := y) 0
            rw [Int.zero_add] at this
            rw [this]; exact e0
        · exact Or.inr a
    intro k k0 k1
    rcases ind k.toNat (by omega) with a | a
    · exact Or.inl (a k k0 (by omega))
    · exact Or.inr a
  by_cases hl : LEX L (fun k => nd k * g / N) y
  · exact hl
  · left
    intro k k0 k1
    have a := (cmp k k0 (by omega)).elim id (fun q => absurd q hl)
    rw [hx k k0 (by omega)] at a
    have b1 := hso.1 _ (md_b (k + 1) hL).1 (md_b (k + 1) hL).2
    have b2 := hy.1 _ (md_b (k + 1) hL).1 (md_b (k + 1) hL).2
    unfold ndF at a
    by_cases e : w = 2
    · rw [if_pos e, if_pos e, Int.emod_eq_of_lt k0 k1] at a; exact a.symm
    · rw [if_neg e, if_neg e, Int.emod_eq_of_lt k0 k1] at a
      have c1 := (dm_of (p := y k) b2).1
      have c2 := (dm_of (p := nd k * g / N) b1).1
      rw [a] at c1
      exact c2.symm.trans c1
