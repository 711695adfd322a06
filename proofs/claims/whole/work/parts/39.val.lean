/-! what a sum takes: no overflow -/
def VOK (g : Int) (T B : Int → Int) : Prop := (∀ s, 0 ≤ s → s < g → ab (T s) ≤ 6561 ∧ 1 ≤ B s ∧ B s ≤ 6561) ∧ ∃ D, 1 ≤ D ∧ D ≤ 14348907 ∧ ∀ s, 0 ≤ s → s < g → B s ∣ D
theorem LT_b {t b T B : Int} (h : LT9 t b T B) (hb : b ≠ 0) : ∃ m, m ≠ 0 ∧ t = T * m ∧ b = B * m := by
  obtain ⟨h1, h2, h3⟩ := h
  obtain ⟨m, hm⟩ := cop (B := B) (T := T) (k := b) (by rw [Int.gcd_comm]; exact h3) ⟨t, by rw [h1, Int.mul_comm]⟩
  refine ⟨m, fun q => hb (by rw [hm, q, Int.mul_zero]), ?_, hm⟩
  rw [hm, ← Int.mul_assoc, Int.mul_comm T B, Int.mul_assoc, Int.mul_comm t B] at h1
  exact (Int.eq_of_mul_eq_mul_left (by omega) h1).symm
theorem ab_le {T m : Int} (hm : m ≠ 0) : ab T ≤ ab (T * m) := by
  rw [ab_mul]
  have h1 : 1 ≤ ab m := by rcases ab_d m with q | q <;> omega
  have h2 := Int.mul_le_mul_of_nonneg_left h1 (ab_nn T)
  omega
theorem VOK_of {g : Int} {F : VC → Prop} {C : Int → VC} {f : Int} {T B : Int → Int} (hg : 2 ≤ g ∧ g ≤ 6) (hC : CL g F C g) (hf : 0 ≤ f ∧ f < g ∧ C f f = 0) (hB : BROW C f T B g) : VOK g T B := by
  have hred := CL_red (by omega) hC
  have hp0 := CL_p0 (by omega) hC
  obtain ⟨ca, cb, cc, cd, ce, cf⟩ := hC
  have hS := SP_sub g F
  have hsz : ∀ v, SP g F v → sm v g.toNat = 0 := fun v h => h _ (SUB_sm g) fun f hf => (ce f hf).1
  have clr : ∀ x, 0 ≤ x → x < g → C x x ≠ 0 → ∀ y, 0 ≤ y → y < g → C y y ≠ 0 → y ≠ x → C x y = 0 := fun x x0 x1 hx y y0 y1 hy q => by
    by_cases l : y < x
    · exact (cf x x0 x1 hx x1).2 y y0 l hy
    · exact ca x x0 x1 hx y (by omega) y1
  refine ⟨fun s s0 s1 => ?_, ?_⟩
  · by_cases q : C s s = 0
    · have h := (hB s s0 s1).2 q
      rw [h.1, h.2]
      split <;> exact ⟨by decide, by decide, by decide⟩
    · have h := (hB s s0 s1).1 q
      obtain ⟨m, hm, e1, e2⟩ := LT_b h q
      have nb := (cf s s0 s1 q s1).1
      have n1 := NB_e nb hf.1 hf.2.1
      have n2 := NB_e nb s0 s1
      have l1 := ab_le (T := T s) hm
      have l2 := ab_le (T := B s) hm
      rw [← e1] at l1
      rw [← e2] at l2
      have hBp := h.2.1
      refine ⟨?_, by omega, ?_⟩
      · rcases ab_d (-(C s f)) with z | z <;> rcases ab_d (C s f) with y | y <;> omega
      · rcases ab_d (B s) with z | z <;> omega
  · have fin : ∀ D, 1 ≤ D → D ≤ 14348907 → (∀ s, 0 ≤ s → s < g → C s s ≠ 0 → ∃ w, SP g F w ∧ (w s = D ∨ w s = -D) ∧ ∀ y, 0 ≤ y → y < g → C y y ≠ 0 → y ≠ s → w y = 0) → ∃ D, 1 ≤ D ∧ D ≤ 14348907 ∧ ∀ s, 0 ≤ s → s < g → B s ∣ D := fun D d0 d1 h => ⟨D, d0, d1, fun s s0 s1 => by
      by_cases q : C s s = 0
      · rw [((hB s s0 s1).2 q).2]; exact Int.one_dvd D
      · obtain ⟨w, w1, w2, w3⟩ := h s s0 s1 q
        have hlt := (hB s s0 s1).1 q
        have pr := PROP hS hred ⟨s0, s1⟩ (cb s s0 s1 q) w1 (clr s s0 s1 q) w3 f hf.1 hf.2.1
        -- C s f * w s = w f * C s s
        obtain ⟨m, hm, e1, e2⟩ := LT_b hlt q
        have e3 : T s * w s = -(w f) * B s := by
          have e4 : m * (T s * w s) = m * (-(w f) * B s) := by
            rw [← Int.mul_assoc, Int.mul_comm m (T s), ← e1, Int.neg_mul, pr, e2, Int.neg_mul, Int.mul_neg, Int.mul_comm m, Int.mul_assoc]
          exact Int.eq_of_mul_eq_mul_left hm e4
        have e5 : B s ∣ w s := cop (T := T s) (by rw [Int.gcd_comm]; exact hlt.2.2) ⟨-(w f), by rw [e3, Int.mul_comm]⟩
        rcases w2 with z | z
        · rw [← z]; exact e5
        · rw [z] at e5; exact (Int.dvd_neg).mp e5⟩
    by_cases hall : ∀ y, 1 ≤ y → y < g → C y y ≠ 0
    · -- only place 0 is free
      have f0 : f = 0 := Classical.byContradiction fun q => hall f (by omega) hf.2.1 hf.2.2
      refine ⟨1, by decide, by decide, fun s s0 s1 => ?_⟩
      by_cases q : C s s = 0
      · rw [((hB s s0 s1).2 q).2]; exact Int.one_dvd 1
      · have hlt := (hB s s0 s1).1 q
        have sp : 1 ≤ s := Classical.byContradiction fun z => q (by rw [show s = 0 by omega]; exact hp0)
        have h0 : C s 0 + C s s = 0 := by
          have h1 := hsz _ (cb s s0 s1 q)
          have h2 : sm (C s) g.toNat = sm (fun y => (if (true && ((0 : Int) == y)) = true then C s 0 else 0) + (if (true && (s == y)) = true then C s s else 0)) g.toNat := sm_c _ fun i i0 i1 => by
            by_cases e : i = 0
            · subst e; rw [if_pos (by simp), if_neg (by simp; omega)]; simp
            · rw [if_neg (c := (true && ((0 : Int) == i)) = true) (by simp; omega)]
              by_cases e2 : i = s
              · subst e2; rw [if_pos (by simp)]; simp
              · rw [if_neg (by simp; omega)]; exact clr s s0 s1 q i i0 (by omega) (hall i (by omega) (by omega)) e2
          rw [h2, sm_add, sm_one, sm_one, if_pos ⟨rfl, by decide, by omega⟩, if_pos ⟨rfl, by omega, by omega⟩] at h1
          exact h1
        rw [f0] at hlt
        have e : -(C s 0) = C s s := by omega
        rw [e] at hlt
        have := LT_u hlt (⟨by simp, by decide, by decide⟩ : LT9 1 1 1 1) q (by decide) (by omega)
        rw [this.2]
        exact Int.dvd_refl 1
    · obtain ⟨z, hz⟩ := Classical.not_forall.mp hall
      have hz1 : 1 ≤ z ∧ z < g ∧ C z z = 0 := by
        refine ⟨?_, ?_, ?_⟩
        · exact Classical.byContradiction fun q => hz fun a => absurd a q
        · exact Classical.byContradiction fun q => hz fun _ a => absurd a q
        · exact Classical.byContradiction fun q => hz fun _ _ => q
      obtain ⟨Q, hQ⟩ : ∃ Q, Q = (q5L z z).filter (fun y => decide (y < g) && C y y != 0) := ⟨_, rfl⟩
      have hql : Q.length ≤ 4 := by
        have h1 : ∀ z ∈ [(1 : Int), 2, 3, 4, 5], (q5L z z).length = 4 := by decide
        have := h1 z (q5_mem ⟨hz1.1, by omega⟩)
        have h2 := List.length_filter_le (fun y => decide (y < g) && C y y != 0) (q5L z z)
        rw [hQ]; omega
      have hqm : ∀ y ∈ Q, (0 ≤ y ∧ y < g) ∧ C y y ≠ 0 := fun y hy => by
        rw [hQ] at hy
        obtain ⟨h1, h2⟩ := List.mem_filter.mp hy
        obtain ⟨h3, h4⟩ := List.mem_filter.mp h1
        simp at h2
        have : 0 ≤ y := by
          simp at h3; omega
        exact ⟨⟨this, h2.1⟩, h2.2⟩
      have hqi : ∀ y, 0 ≤ y → y < g → C y y ≠ 0 → y ∈ Q := fun y y0 y1 hy => by
        have e0 : y ≠ 0 := fun e => hy (e ▸ hp0)
        have ez : y ≠ z := fun e => hy (e ▸ hz1.2.2)
        rw [hQ]
        exact List.mem_filter.mpr ⟨List.mem_filter.mpr ⟨q5_mem (by omega), by simp; exact ez⟩, by simp; exact ⟨y1, hy⟩⟩
      have hqn : Q.Nodup := by
        rw [hQ]
        exact List.Pairwise.filter _ (List.Pairwise.filter _ (by decide))
      obtain ⟨d, d0, d1, d2⟩ := DEN Q F 3 hqn (fun q hq => (hqm q hq).1) (by decide) ce (fun q hq => ⟨C q, cb q (hqm q hq).1.1 (hqm q hq).1.2 (hqm q hq).2, (hqm q hq).2, fun p hp e => clr q (hqm q hq).1.1 (hqm q hq).1.2 (hqm q hq).2 p (hqm p hp).1.1 (hqm p hp).1.2 (hqm p hp).2 e⟩)
      have d3 : ab d ≤ 14348907 := Int.le_trans d1 (Int.le_trans (pw_mono (b := 3) (by decide) (Nat.sub_le_sub_right (Nat.pow_le_pow_right (by decide) hql) 1)) (by decide))
      refine fin (ab d) (by rcases ab_d d with q | q <;> omega) d3 fun s s0 s1 hs => ?_
      obtain ⟨w, w1, w2, w3⟩ := d2 s (hqi s s0 s1 hs)
      exact ⟨w, w1, by rw [w2]; rcases ab_d d with q | q <;> omega, fun y y0 y1 hy q => w3 y (hqi y y0 y1 hy) q⟩
/-- the sum of a ring, in lowest terms -/
def valF (T B : Int → Int) (R : Int → Int) : Nat → Int × Int
  | 0 => (0, 1)
  | k + 1 =>
    let t := (valF T B R k).1 * B (R k) + T (R k) * (valF T B R k).2
    let b := (valF T B R k).2 * B (R k)
    (t.tdiv (Int.gcd t b : Int), b.tdiv (Int.gcd t b : Int))
theorem valF_S {T B R : Int → Int} {k t b : Int} (h : 0 ≤ k) (ht : t = (valF T B R k.toNat).1 * B (R k) + T (R k) * (valF T B R k.toNat).2) (hb : b = (valF T B R k.toNat).2 * B (R k)) : valF T B R (k + 1).toNat = (t.tdiv (Int.gcd t b : Int), b.tdiv (Int.gcd t b : Int)) := by
  rw [show (k + 1).toNat = k.toNat + 1 by omega]
  show (_, _) = _
  rw [show ((k.toNat : Nat) : Int) = k by omega, ← ht, ← hb]
theorem val_b {g : Int} {T B R : Int → Int} (h : VOK g T B) {D : Int} (hD : 1 ≤ D ∧ ∀ s, 0 ≤ s → s < g → B s ∣ D) : ∀ n : Nat, (∀ k : Int, 0 ≤ k → k < n → 0 ≤ R k ∧ R k < g) → 1 ≤ (valF T B R n).2 ∧ (valF T B R n).2 ∣ D ∧ ab (valF T B R n).1 ≤ n * 6561 * (valF T B R n).2
  | 0, _ => ⟨Int.le_refl 1, Int.one_dvd D, by show ab 0 ≤ ((0 : Nat) : Int) * 6561 * 1; decide⟩
  | n + 1, hR => by
    obtain ⟨b0, b1, b2⟩ := val_b h hD n (fun k k0 k1 => hR k k0 (by omega))
    have hr := hR n (by omega) (by omega)
    obtain ⟨v1, v2, v3⟩ := h.1 _ hr.1 hr.2
    have hd := hD.2 _ hr.1 hr.2
    obtain ⟨t, ht⟩ : ∃ t, t = (valF T B R n).1 * B (R n) + T (R n) * (valF T B R n).2 := ⟨_, rfl⟩
    obtain ⟨b, hb⟩ : ∃ b, b = (valF T B R n).2 * B (R n) := ⟨_, rfl⟩
    have hv : valF T B R (n + 1) = (t.tdiv (Int.gcd t b : Int), b.tdiv (Int.gcd t b : Int)) := by rw [ht, hb]; rfl
    rw [hv]
    have hbp : 0 < b := by rw [hb]; exact Int.mul_pos (by omega) (by omega)
    obtain ⟨d0, hlt⟩ := LT_of (t := t) (b := b) (by omega) (s := 1) (by rw [if_neg (by omega)]) rfl
    rw [Int.one_mul, Int.one_mul] at hlt
    obtain ⟨t3, ht3⟩ : ∃ t3, t3 = t.tdiv (Int.gcd t b : Int) := ⟨_, rfl⟩
    obtain ⟨b3, hb3⟩ : ∃ b3, b3 = b.tdiv (Int.gcd t b : Int) := ⟨_, rfl⟩
    rw [← ht3, ← hb3] at hlt
    show 1 ≤ b.tdiv (Int.gcd t b : Int) ∧ b.tdiv (Int.gcd t b : Int) ∣ D ∧ ab (t.tdiv (Int.gcd t b : Int)) ≤ ((n + 1 : Nat) : Int) * 6561 * b.tdiv (Int.gcd t b : Int)
    rw [← ht3, ← hb3]
    obtain ⟨m, hm, e1, e2⟩ := LT_b hlt (by omega)
    have hb3p := hlt.2.1
    have hmp : 0 < m := posr hb3p (by rw [← e2]; exact hbp)
    refine ⟨by omega, ?_, ?_⟩
    · obtain ⟨x, hx⟩ := b1
      obtain ⟨y, hy⟩ := hd
      have k1 : D * t = b * (x * (valF T B R n).1 + y * T (R n)) := by
        rw [ht, Int.mul_add, hb, Int.mul_add]
        have a1 : D * ((valF T B R n).1 * B (R n)) = (valF T B R n).2 * B (R n) * (x * (valF T B R n).1) := by
          rw [hx, Int.mul_assoc, Int.mul_assoc, Int.mul_left_comm (B (R n)) x, Int.mul_comm (B (R n))]
        have a2 : D * (T (R n) * (valF T B R n).2) = (valF T B R n).2 * B (R n) * (y * T (R n)) := by
          rw [hy, Int.mul_comm (T (R n)), Int.mul_assoc, Int.mul_left_comm y, Int.mul_left_comm (B (R n)), Int.mul_assoc]
        rw [a1, a2]
      have k2 : t3 * D = b3 * (x * (valF T B R n).1 + y * T (R n)) := by
        refine Int.eq_of_mul_eq_mul_left hm ?_
        rw [← Int.mul_assoc, Int.mul_comm m t3, ← e1, Int.mul_comm t D, k1, e2, Int.mul_comm b3 m, Int.mul_assoc]
      exact cop (T := t3) (by rw [Int.gcd_comm]; exact hlt.2.2) ⟨_, k2⟩
    · have k3 : ab t ≤ (n : Int) * 6561 * b + 6561 * b := by
        have a1 : ab ((valF T B R n).1 * B (R n)) ≤ (n : Int) * 6561 * b := by
          rw [ab_mul, hb, ← Int.mul_assoc]
          have : ab (B (R n)) = B (R n) := by rcases ab_d (B (R n)) with q | q <;> omega
          rw [this]
          exact Int.mul_le_mul_of_nonneg_right b2 (by omega)
        have a2 : ab (T (R n) * (valF T B R n).2) ≤ 6561 * b := by
          rw [ab_mul]
          have e : ab (valF T B R n).2 = (valF T B R n).2 := by rcases ab_d (valF T B R n).2 with q | q <;> omega
          rw [e]
          have c1 := Int.mul_le_mul_of_nonneg_right (c := (valF T B R n).2) v1 (by omega)
          have c2 : (valF T B R n).2 * 1 ≤ (valF T B R n).2 * B (R n) := Int.mul_le_mul_of_nonneg_left v2 (by omega)
          rw [Int.mul_one, ← hb] at c2
          omega
        rw [ht]
        rcases ab_d ((valF T B R n).1 * B (R n)) with q | q <;> rcases ab_d (T (R n) * (valF T B R n).2) with z | z <;> rcases ab_d ((valF T B R n).1 * B (R n) + T (R n) * (valF T B R n).2) with w | w <;> omega
      have k4 : ((n + 1 : Nat) : Int) * 6561 * b3 * m = (n : Int) * 6561 * b + 6561 * b := by
        rw [e2, Int.mul_assoc _ b3 m]; push_cast
        rw [Int.add_mul, Int.add_mul, Int.one_mul]
      have k5 : ab t = ab t3 * m := by
        rw [e1, ab_mul]
        have : ab m = m := by rcases ab_d m with q | q <;> omega
        rw [this]
      rw [k5, ← k4] at k3
      exact Int.le_of_mul_le_mul_right k3 hmp
